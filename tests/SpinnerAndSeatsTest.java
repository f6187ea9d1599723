import java.util.NoSuchElementException;

/** Promises 34 to 38. */
public final class SpinnerAndSeatsTest {
    public static void main(String[] args) {
        promises34And35Spin();
        promise36Certify();
        promise36CertifyWithTies();
        promises37And38Seats();
        Due.finish();
    }

    private static void promises34And35Spin() {
        WindElection e = new WindElection();
        int[] due = {3, 2, 13, 4, 7, 6, 1, 8, 11, 10, 5, 12, 15, 14, 9, 0, 3};
        for (int value : due) {
            Due.answer("spin", value, () -> e.spin());
            Due.answer("spinValue", value, () -> e.spinValue());
        }
    }

    private static void promise36Certify() {
        WindElection none = new WindElection();
        Scene.refused(none, "certify of none", NoSuchElementException.class, () -> none.certify());
        WindElection e = Scene.withWinds(3);
        Scene.ballot(e, 5, "20");
        Scene.ballot(e, 3, "1");
        Due.answer("certify with a majority", 2, () -> e.certify());
        Due.compare("the state after certify", Scene.state(e), "sst|2|0|5:20|3:1");
        Due.answer("the next certify", 0, () -> e.certify());
        Due.answer("the last certify", 1, () -> e.certify());
        Due.compare("the state after all have seats", Scene.state(e), "ttt|201|0|5:20|3:1");
        Scene.refused(e, "certify when none stands", NoSuchElementException.class, () -> e.certify());
    }

    private static void promise36CertifyWithTies() {
        WindElection e = Scene.withWinds(4);
        Due.compare("the count", Scene.count(e), "3*2*1*0!");
        Due.answer("certify with three ties", 0, () -> e.certify());
        Due.answer("the spinner after three ties", 13, () -> e.spinValue());
        Due.compare("the next count", Scene.count(e), "2*3*1!");
        Due.answer("certify with two ties", 1, () -> e.certify());
        Due.answer("the spinner after two ties", 7, () -> e.spinValue());
        e.withdraw(2);
        Due.answer("certify without a tie", 3, () -> e.certify());
        Due.answer("the spinner without a tie", 7, () -> e.spinValue());
    }

    private static void promises37And38Seats() {
        WindElection e = Scene.withWinds(8);
        Due.answer("seatCount of none", 0, () -> e.seatCount());
        Due.refusal("seatAt(0) of none", NoSuchElementException.class, () -> e.seatAt(0));
        for (int i = 0; i < 8; i++) {
            int number = i;
            int winner = e.winner();
            Due.answer("certify", winner, () -> e.certify());
            Due.answer("seatCount", number + 1, () -> e.seatCount());
            Due.answer("seatAt(" + number + ")", winner, () -> e.seatAt(number));
        }
        Due.refusal("seatAt(8)", NoSuchElementException.class, () -> e.seatAt(8));
        Due.refusal("seatAt(-1)", NoSuchElementException.class, () -> e.seatAt(-1));
        e.undo();
        Due.answer("seatCount after undo", 7, () -> e.seatCount());
        Due.refusal("seatAt(7) after undo", NoSuchElementException.class, () -> e.seatAt(7));
        WindElection left = Scene.withWinds(2);
        left.withdraw(0);
        Due.refusal("seatAt(-1) when one withdrew", NoSuchElementException.class, () -> left.seatAt(-1));
        Due.answer("seatCount when one withdrew", 0, () -> left.seatCount());
    }
}
