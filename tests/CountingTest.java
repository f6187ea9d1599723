import java.util.NoSuchElementException;

/** Promises 18 to 26. */
public final class CountingTest {
    public static void main(String[] args) {
        promises18And19Winner();
        promises18And19MoreThanHalf();
        promises18And19Ties();
        promise20RoundCount();
        promise21VotesIn();
        promise22ExhaustedIn();
        promise23EliminatedIn();
        promise24IsTieIn();
        promise25RoundOfElimination();
        promise26WinnerShare();
        Due.finish();
    }

    /** Three rounds: 3 leaves first, then 1, and 2 wins by 9 against 5. */
    private static WindElection fourWinds() {
        WindElection e = Scene.withWinds(4);
        Scene.ballot(e, 5, "01");
        Scene.ballot(e, 4, "12");
        Scene.ballot(e, 3, "210");
        Scene.ballot(e, 2, "32");
        return e;
    }

    private static void wins(WindElection e, String what, int wind) {
        Due.answer("winner " + what, wind, () -> e.winner());
        Due.answer("winnerByTransfers " + what, wind, () -> e.winnerByTransfers());
    }

    private static void promises18And19Winner() {
        WindElection e = fourWinds();
        wins(e, "after transfers", 2);
        e.withdraw(2);
        wins(e, "when 2 withdrew", 1);
        Due.answer("certify", 1, () -> e.certify());
        wins(e, "when 1 has a seat", 0);
        e.withdraw(0);
        wins(e, "when 3 is the only one", 3);
        e.withdraw(3);
        Due.refusal("winner of none", NoSuchElementException.class, () -> e.winner());
        Due.refusal("winnerByTransfers of none", NoSuchElementException.class, () -> e.winnerByTransfers());
    }

    private static void promises18And19MoreThanHalf() {
        WindElection e = Scene.withWinds(3);
        Scene.ballot(e, 5, "0");
        Scene.ballot(e, 3, "12");
        Scene.ballot(e, 2, "21");
        Due.compare("the count with exactly half", Scene.count(e), "2-1*0!");
        wins(e, "with exactly half, then a tie", 0);
        e.recount(0, 6);
        Due.compare("the count with more than half", Scene.count(e), "0!");
        e.recount(0, 5);
        e.withdraw(2);
        e.addWind();
        Scene.ballot(e, 9, "2");
        Due.compare("an exhausted ballot is no part of the sum", Scene.count(e), "3-1*0!");
        e.removeBallot(2);
        Due.compare("half of the votes that count is enough", Scene.count(e), "0!");
    }

    private static void promises18And19Ties() {
        WindElection e = Scene.withWinds(5);
        Due.compare("a count of ties from 0", Scene.count(e), "3*2*1*0*4!");
        wins(e, "of ties from 0", 4);
        Due.answer("the spinner after winner", 0, () -> e.spinValue());
        e.spin();
        Due.compare("a count of ties from 3", Scene.count(e), "2*1*3*4*0!");
        wins(e, "of ties from 3", 0);
        Scene.ballot(e, 4, "1");
        Scene.ballot(e, 4, "3");
        Scene.ballot(e, 1, "2");
        Due.compare("a tie among some of the winds", Scene.count(e), "0*4-2-3*1!");
        Due.answer("the spinner after the counts", 3, () -> e.spinValue());
    }

    private static void promise20RoundCount() {
        WindElection e = new WindElection();
        Due.answer("roundCount of none", 0, () -> e.roundCount());
        for (int i = 1; i <= 8; i++) {
            e.addWind();
            Due.answer("roundCount with " + i, i, () -> e.roundCount());
        }
        e.addBallot(1, 7);
        Due.answer("roundCount with a majority", 1, () -> e.roundCount());
        for (int i = 0; i < 8; i++) {
            e.withdraw(i);
        }
        Due.answer("roundCount when all withdrew", 0, () -> e.roundCount());
    }

    private static void promise21VotesIn() {
        WindElection e = fourWinds();
        int[][] due = {{5, 4, 3, 2}, {5, 4, 5, -1}, {5, -1, 9, -1}};
        for (int r = 0; r < 3; r++) {
            for (int w = 0; w < 4; w++) {
                int round = r;
                int wind = w;
                String want = due[r][w] < 0 ? "throws.NoSuchElementException" : "" + due[r][w];
                Due.answer("votesIn(" + r + ", " + w + ")", want, () -> e.votesIn(round, wind));
            }
        }
        Due.refusal("votesIn(3, 0)", NoSuchElementException.class, () -> e.votesIn(3, 0));
        Due.refusal("votesIn(-1, 0)", NoSuchElementException.class, () -> e.votesIn(-1, 0));
        Due.refusal("votesIn(0, 4)", IndexOutOfBoundsException.class, () -> e.votesIn(0, 4));
        Due.refusal("votesIn(0, -1)", IndexOutOfBoundsException.class, () -> e.votesIn(0, -1));
        Due.refusal("votesIn(9, 9)", IndexOutOfBoundsException.class, () -> e.votesIn(9, 9));
        e.withdraw(3);
        Due.refusal("votesIn of one that withdrew", NoSuchElementException.class, () -> e.votesIn(0, 3));
        Due.answer("votesIn after withdraw", 5, () -> e.votesIn(0, 2));
    }

    private static void promise22ExhaustedIn() {
        WindElection e = Scene.withWinds(4);
        Scene.ballot(e, 7, "3");
        Scene.ballot(e, 4, "0");
        Scene.ballot(e, 3, "1");
        Scene.ballot(e, 2, "21");
        e.withdraw(3);
        Due.answer("exhaustedIn(0)", 7, () -> e.exhaustedIn(0));
        Due.answer("exhaustedIn(1)", 7, () -> e.exhaustedIn(1));
        Due.refusal("exhaustedIn(2)", NoSuchElementException.class, () -> e.exhaustedIn(2));
        Due.refusal("exhaustedIn(-1)", NoSuchElementException.class, () -> e.exhaustedIn(-1));
        e.recount(3, 1);
        e.addWind();
        Scene.ballot(e, 2, "4");
        Due.compare("the count", Scene.count(e), "2-4-1*0!");
        Due.answer("exhaustedIn(2) with more", 9, () -> e.exhaustedIn(2));
        Due.answer("exhaustedIn(3) with more", 13, () -> e.exhaustedIn(3));
        WindElection none = new WindElection();
        Due.refusal("exhaustedIn(0) of none", NoSuchElementException.class, () -> none.exhaustedIn(0));
    }

    private static void promise23EliminatedIn() {
        WindElection e = fourWinds();
        Due.answer("eliminatedIn(0)", 3, () -> e.eliminatedIn(0));
        Due.answer("eliminatedIn(1)", 1, () -> e.eliminatedIn(1));
        Due.refusal("eliminatedIn(2), the last", NoSuchElementException.class, () -> e.eliminatedIn(2));
        Due.refusal("eliminatedIn(3)", NoSuchElementException.class, () -> e.eliminatedIn(3));
        Due.refusal("eliminatedIn(-1)", NoSuchElementException.class, () -> e.eliminatedIn(-1));
    }

    private static void promise24IsTieIn() {
        WindElection e = Scene.withWinds(3);
        Scene.ballot(e, 5, "0");
        Scene.ballot(e, 2, "12");
        Scene.ballot(e, 3, "2");
        Due.answer("isTieIn(0) without a tie", false, () -> e.isTieIn(0));
        Due.answer("isTieIn(1) with a tie", true, () -> e.isTieIn(1));
        Due.answer("isTieIn(2), the last", false, () -> e.isTieIn(2));
        Due.refusal("isTieIn(3)", NoSuchElementException.class, () -> e.isTieIn(3));
        Due.refusal("isTieIn(-1)", NoSuchElementException.class, () -> e.isTieIn(-1));
        e.recount(0, 20);
        Due.answer("isTieIn(0) with a majority", false, () -> e.isTieIn(0));
        e.recount(1, 3);
        Due.answer("isTieIn(0) with a majority and a tie behind", false, () -> e.isTieIn(0));
    }

    private static void promise25RoundOfElimination() {
        WindElection e = fourWinds();
        e.addWind();
        e.withdraw(4);
        Due.answer("roundOfElimination(3)", 0, () -> e.roundOfElimination(3));
        Due.answer("roundOfElimination(1)", 1, () -> e.roundOfElimination(1));
        Due.refusal("roundOfElimination of the winner", NoSuchElementException.class, () -> e.roundOfElimination(2));
        Due.refusal("roundOfElimination of one in the last round", NoSuchElementException.class,
                () -> e.roundOfElimination(0));
        Due.refusal("roundOfElimination of one that withdrew", NoSuchElementException.class,
                () -> e.roundOfElimination(4));
        Due.refusal("roundOfElimination(5)", IndexOutOfBoundsException.class, () -> e.roundOfElimination(5));
        Due.refusal("roundOfElimination(-1)", IndexOutOfBoundsException.class, () -> e.roundOfElimination(-1));
        e.withdraw(1);
        Due.answer("the count after 1 withdrew", "3-2!", () -> Scene.count(e));
        Due.refusal("roundOfElimination(1) after it withdrew", NoSuchElementException.class,
                () -> e.roundOfElimination(1));
    }

    private static void promise26WinnerShare() {
        WindElection none = new WindElection();
        Due.refusal("winnerShare of none", NoSuchElementException.class, () -> none.winnerShare());
        WindElection e = fourWinds();
        Due.answer("winnerShare", 9f / 14f, () -> e.winnerShare());
        e.withdraw(2);
        e.withdraw(0);
        e.withdraw(3);
        Due.answer("winnerShare of the only one", 1.0f, () -> e.winnerShare());
        e.withdraw(1);
        Due.refusal("winnerShare when all withdrew", NoSuchElementException.class, () -> e.winnerShare());
        e.addWind();
        Due.refusal("winnerShare without votes", ArithmeticException.class, () -> e.winnerShare());
        e.addWind();
        Due.refusal("winnerShare without votes among two", ArithmeticException.class, () -> e.winnerShare());
    }
}
