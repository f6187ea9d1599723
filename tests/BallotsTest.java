import java.util.NoSuchElementException;

/** Promises 8 to 17. */
public final class BallotsTest {
    public static void main(String[] args) {
        promise8AddBallot();
        promise8OrderOfExceptions();
        promise9Rank();
        promise10RemoveBallot();
        promise11Recount();
        promises12To14Counts();
        promise15WindAt();
        promise16RankOf();
        promise17TotalWeight();
        Due.finish();
    }

    private static void promise8AddBallot() {
        WindElection e = Scene.withWinds(2);
        e.withdraw(1);
        Due.answer("addBallot(1, 0)", 0, () -> e.addBallot(1, 0));
        Due.answer("addBallot(99, 0)", 1, () -> e.addBallot(99, 0));
        Due.answer("addBallot for one that withdrew", 2, () -> e.addBallot(7, 1));
        Due.compare("the state after addBallot", Scene.state(e), "sw||0|1:0|99:0|7:1");
        Scene.refused(e, "addBallot(0, 0)", IllegalArgumentException.class, () -> e.addBallot(0, 0));
        Scene.refused(e, "addBallot(100, 0)", IllegalArgumentException.class, () -> e.addBallot(100, 0));
        Scene.refused(e, "addBallot(-5, 0)", IllegalArgumentException.class, () -> e.addBallot(-5, 0));
        Scene.refused(e, "addBallot(1, 2)", IndexOutOfBoundsException.class, () -> e.addBallot(1, 2));
        Scene.refused(e, "addBallot(1, -1)", IndexOutOfBoundsException.class, () -> e.addBallot(1, -1));
    }

    private static void promise8OrderOfExceptions() {
        WindElection e = Scene.withWinds(1);
        for (int i = 0; i < 20; i++) {
            int number = i;
            Due.answer("addBallot", number, () -> e.addBallot(number + 1, 0));
        }
        Scene.refused(e, "addBallot(1, 0) as the 21st", IllegalStateException.class, () -> e.addBallot(1, 0));
        Scene.refused(e, "addBallot(0, 0) as the 21st", IllegalArgumentException.class, () -> e.addBallot(0, 0));
        Scene.refused(e, "addBallot(0, 1) as the 21st", IndexOutOfBoundsException.class, () -> e.addBallot(0, 1));
        Due.answer("removeBallot(19)", 20, () -> e.removeBallot(19));
        Due.answer("addBallot when there is room again", 19, () -> e.addBallot(50, 0));
    }

    private static void promise9Rank() {
        WindElection e = Scene.withWinds(7);
        e.withdraw(3);
        e.addBallot(4, 6);
        e.addBallot(5, 0);
        Due.answer("rank(0, 3)", 1, () -> e.rank(0, 3));
        Due.answer("rank(0, 0)", 2, () -> e.rank(0, 0));
        Due.answer("rank(0, 5)", 3, () -> e.rank(0, 5));
        Due.answer("rank(0, 1)", 4, () -> e.rank(0, 1));
        Due.answer("rank(1, 1)", 1, () -> e.rank(1, 1));
        Due.compare("the state after rank", Scene.state(e), "ssswsss||0|4:63051|5:01");
        Scene.refused(e, "rank of a sixth wind", IllegalStateException.class, () -> e.rank(0, 2));
        Scene.refused(e, "rank again on a full ballot", IllegalArgumentException.class, () -> e.rank(0, 6));
        Scene.refused(e, "rank again", IllegalArgumentException.class, () -> e.rank(1, 1));
        Scene.refused(e, "rank(2, 0)", IndexOutOfBoundsException.class, () -> e.rank(2, 0));
        Scene.refused(e, "rank(-1, 0)", IndexOutOfBoundsException.class, () -> e.rank(-1, 0));
        Scene.refused(e, "rank(0, 7)", IndexOutOfBoundsException.class, () -> e.rank(0, 7));
        Scene.refused(e, "rank(0, -1)", IndexOutOfBoundsException.class, () -> e.rank(0, -1));
    }

    private static void promise10RemoveBallot() {
        WindElection e = Scene.withWinds(3);
        Scene.ballot(e, 1, "012");
        Scene.ballot(e, 2, "1");
        Scene.ballot(e, 3, "20");
        Scene.refused(e, "removeBallot(3)", IndexOutOfBoundsException.class, () -> e.removeBallot(3));
        Scene.refused(e, "removeBallot(-1)", IndexOutOfBoundsException.class, () -> e.removeBallot(-1));
        Due.answer("removeBallot(1)", 2, () -> e.removeBallot(1));
        Due.compare("the state after removeBallot(1)", Scene.state(e), "sss||0|1:012|3:20");
        Due.answer("removeBallot(0)", 1, () -> e.removeBallot(0));
        Due.compare("the state after removeBallot(0)", Scene.state(e), "sss||0|3:20");
        Due.answer("addBallot where others have been", 1, () -> e.addBallot(9, 1));
        Due.compare("the state after addBallot", Scene.state(e), "sss||0|3:20|9:1");
        e.rank(1, 2);
        Due.compare("the state after rank", Scene.state(e), "sss||0|3:20|9:12");
        e.removeBallot(0);
        Due.answer("the last removeBallot", 9, () -> e.removeBallot(0));
        Scene.refused(e, "removeBallot(0) of none", IndexOutOfBoundsException.class, () -> e.removeBallot(0));
    }

    private static void promise11Recount() {
        WindElection e = Scene.withWinds(1);
        e.addBallot(5, 0);
        e.addBallot(6, 0);
        Due.answer("recount(0, 99)", 5, () -> e.recount(0, 99));
        Due.answer("recount(0, 1)", 99, () -> e.recount(0, 1));
        Due.answer("recount(1, 6)", 6, () -> e.recount(1, 6));
        Due.compare("the state after recount", Scene.state(e), "s||0|1:0|6:0");
        Scene.refused(e, "recount(0, 0)", IllegalArgumentException.class, () -> e.recount(0, 0));
        Scene.refused(e, "recount(0, 100)", IllegalArgumentException.class, () -> e.recount(0, 100));
        Scene.refused(e, "recount(2, 100)", IndexOutOfBoundsException.class, () -> e.recount(2, 100));
        Scene.refused(e, "recount(-1, 1)", IndexOutOfBoundsException.class, () -> e.recount(-1, 1));
    }

    private static void promises12To14Counts() {
        WindElection e = Scene.withWinds(6);
        Scene.ballot(e, 11, "5");
        Scene.ballot(e, 12, "54321");
        Due.answer("ballotCount", 2, () -> e.ballotCount());
        Due.answer("weightOf(0)", 11, () -> e.weightOf(0));
        Due.answer("weightOf(1)", 12, () -> e.weightOf(1));
        Due.answer("rankCount(0)", 1, () -> e.rankCount(0));
        Due.answer("rankCount(1)", 5, () -> e.rankCount(1));
        Due.refusal("weightOf(2)", IndexOutOfBoundsException.class, () -> e.weightOf(2));
        Due.refusal("weightOf(-1)", IndexOutOfBoundsException.class, () -> e.weightOf(-1));
        Due.refusal("rankCount(2)", IndexOutOfBoundsException.class, () -> e.rankCount(2));
        Due.refusal("rankCount(-1)", IndexOutOfBoundsException.class, () -> e.rankCount(-1));
        e.removeBallot(1);
        Due.answer("ballotCount after removeBallot", 1, () -> e.ballotCount());
        Due.refusal("weightOf(1) after removeBallot", IndexOutOfBoundsException.class, () -> e.weightOf(1));
    }

    private static void promise15WindAt() {
        WindElection e = Scene.withWinds(4);
        Scene.ballot(e, 1, "203");
        Due.answer("windAt(0, 0)", 2, () -> e.windAt(0, 0));
        Due.answer("windAt(0, 1)", 0, () -> e.windAt(0, 1));
        Due.answer("windAt(0, 2)", 3, () -> e.windAt(0, 2));
        Due.refusal("windAt(0, 3)", NoSuchElementException.class, () -> e.windAt(0, 3));
        Due.refusal("windAt(0, 5)", NoSuchElementException.class, () -> e.windAt(0, 5));
        Due.refusal("windAt(0, -1)", NoSuchElementException.class, () -> e.windAt(0, -1));
        Due.refusal("windAt(1, 0)", IndexOutOfBoundsException.class, () -> e.windAt(1, 0));
        Due.refusal("windAt(-1, -1)", IndexOutOfBoundsException.class, () -> e.windAt(-1, -1));
    }

    private static void promise16RankOf() {
        WindElection e = Scene.withWinds(4);
        Scene.ballot(e, 1, "203");
        Due.answer("rankOf(0, 2)", 0, () -> e.rankOf(0, 2));
        Due.answer("rankOf(0, 0)", 1, () -> e.rankOf(0, 0));
        Due.answer("rankOf(0, 3)", 2, () -> e.rankOf(0, 3));
        Due.refusal("rankOf(0, 1)", NoSuchElementException.class, () -> e.rankOf(0, 1));
        Due.refusal("rankOf(0, 4)", IndexOutOfBoundsException.class, () -> e.rankOf(0, 4));
        Due.refusal("rankOf(0, -1)", IndexOutOfBoundsException.class, () -> e.rankOf(0, -1));
        Due.refusal("rankOf(1, 1)", IndexOutOfBoundsException.class, () -> e.rankOf(1, 1));
        Due.refusal("rankOf(-1, 1)", IndexOutOfBoundsException.class, () -> e.rankOf(-1, 1));
    }

    private static void promise17TotalWeight() {
        WindElection e = Scene.withWinds(2);
        Due.answer("totalWeight of none", 0, () -> e.totalWeight());
        e.addBallot(40, 0);
        e.addBallot(2, 1);
        Due.answer("totalWeight", 42, () -> e.totalWeight());
        e.withdraw(0);
        Due.answer("totalWeight with an exhausted ballot", 42, () -> e.totalWeight());
        e.removeBallot(0);
        Due.answer("totalWeight after removeBallot", 2, () -> e.totalWeight());
        e.recount(0, 99);
        Due.answer("totalWeight after recount", 99, () -> e.totalWeight());
    }
}
