import java.util.NoSuchElementException;

/** Promises 1 to 7. */
public final class WindsTest {
    public static void main(String[] args) {
        promise1ANewObject();
        promise2AddWind();
        promise3Withdraw();
        promises4And5Counts();
        promise6IsStanding();
        promise7HasSeat();
        Due.finish();
    }

    private static void promise1ANewObject() {
        WindElection e = new WindElection();
        Due.answer("new: windCount", 0, () -> e.windCount());
        Due.answer("new: standingCount", 0, () -> e.standingCount());
        Due.answer("new: ballotCount", 0, () -> e.ballotCount());
        Due.answer("new: seatCount", 0, () -> e.seatCount());
        Due.answer("new: spinValue", 0, () -> e.spinValue());
        Due.answer("new: totalWeight", 0, () -> e.totalWeight());
        Due.answer("new: roundCount", 0, () -> e.roundCount());
        Due.answer("new: isConsistent", true, () -> e.isConsistent());
        Due.refusal("new: undo", IllegalStateException.class, () -> e.undo());
        Due.refusal("new: restore", IllegalStateException.class, () -> e.restore());
        Due.refusal("new: errorPosition", NoSuchElementException.class, () -> e.errorPosition());
        Due.refusal("new: failedCommand", NoSuchElementException.class, () -> e.failedCommand());
        Due.refusal("new: lineAt", IndexOutOfBoundsException.class, () -> e.lineAt(0));
        Due.answer("new: type", 1, () -> e.type('w'));
    }

    private static void promise2AddWind() {
        WindElection e = new WindElection();
        for (int i = 0; i < 8; i++) {
            int number = i;
            Due.answer("addWind", number, () -> e.addWind());
            Due.answer("addWind: isStanding", true, () -> e.isStanding(number));
            Due.answer("addWind: hasSeat", false, () -> e.hasSeat(number));
        }
        Scene.refused(e, "a ninth addWind", IllegalStateException.class, () -> e.addWind());
        e.withdraw(3);
        e.certify();
        Scene.refused(e, "addWind after winds left", IllegalStateException.class, () -> e.addWind());
    }

    private static void promise3Withdraw() {
        WindElection e = Scene.withWinds(3);
        Scene.refused(e, "withdraw(-1)", IndexOutOfBoundsException.class, () -> e.withdraw(-1));
        Scene.refused(e, "withdraw(3)", IndexOutOfBoundsException.class, () -> e.withdraw(3));
        Scene.refused(e, "withdraw(MAX)", IndexOutOfBoundsException.class, () -> e.withdraw(Integer.MAX_VALUE));
        Scene.refused(e, "withdraw(MIN)", IndexOutOfBoundsException.class, () -> e.withdraw(Integer.MIN_VALUE));
        Due.answer("withdraw", 2, () -> e.withdraw(1));
        Due.compare("the state after withdraw", Scene.state(e), "sws||0");
        Scene.refused(e, "withdraw twice", IllegalStateException.class, () -> e.withdraw(1));
        Due.answer("certify", 0, () -> e.certify());
        Scene.refused(e, "withdraw with a seat", IllegalStateException.class, () -> e.withdraw(0));
        Due.answer("the last withdraw", 0, () -> e.withdraw(2));
        Due.compare("the state after all left", Scene.state(e), "tww|0|3");
    }

    private static void promises4And5Counts() {
        WindElection e = Scene.withWinds(4);
        Due.answer("windCount", 4, () -> e.windCount());
        Due.answer("standingCount", 4, () -> e.standingCount());
        e.withdraw(0);
        Due.answer("windCount after withdraw", 4, () -> e.windCount());
        Due.answer("standingCount after withdraw", 3, () -> e.standingCount());
        e.certify();
        Due.answer("windCount after certify", 4, () -> e.windCount());
        Due.answer("standingCount after certify", 2, () -> e.standingCount());
        e.addWind();
        Due.answer("windCount after addWind", 5, () -> e.windCount());
        Due.answer("standingCount after addWind", 3, () -> e.standingCount());
    }

    private static void promise6IsStanding() {
        WindElection e = Scene.withWinds(3);
        e.withdraw(0);
        Scene.ballot(e, 1, "2");
        e.certify();
        Due.answer("isStanding of one that withdrew", false, () -> e.isStanding(0));
        Due.answer("isStanding of one that stands", true, () -> e.isStanding(1));
        Due.answer("isStanding of one with a seat", false, () -> e.isStanding(2));
        Due.refusal("isStanding(3)", IndexOutOfBoundsException.class, () -> e.isStanding(3));
        Due.refusal("isStanding(-1)", IndexOutOfBoundsException.class, () -> e.isStanding(-1));
    }

    private static void promise7HasSeat() {
        WindElection e = Scene.withWinds(3);
        e.withdraw(0);
        Scene.ballot(e, 1, "2");
        e.certify();
        Due.answer("hasSeat of one that withdrew", false, () -> e.hasSeat(0));
        Due.answer("hasSeat of one that stands", false, () -> e.hasSeat(1));
        Due.answer("hasSeat of one with a seat", true, () -> e.hasSeat(2));
        Due.refusal("hasSeat(3)", IndexOutOfBoundsException.class, () -> e.hasSeat(3));
        Due.refusal("hasSeat(-1)", IndexOutOfBoundsException.class, () -> e.hasSeat(-1));
    }
}
