/** Promises 48 to 50. */
public final class UndoTest {
    public static void main(String[] args) {
        promise48UndoOfEachModification();
        promise48OnlyTheLastEight();
        promise48WhatIsNoModification();
        promise49Save();
        promise50Restore();
        Due.finish();
    }

    private static void promise48UndoOfEachModification() {
        WindElection e = new WindElection();
        undone(e, "addWind", () -> e.addWind());
        Scene.execute(e, "wind;wind;wind");
        undone(e, "withdraw", () -> e.withdraw(1));
        undone(e, "addBallot", () -> e.addBallot(5, 2));
        Scene.ballot(e, 7, "021");
        Scene.ballot(e, 9, "1");
        undone(e, "rank", () -> e.rank(1, 0));
        undone(e, "removeBallot", () -> e.removeBallot(0));
        undone(e, "recount", () -> e.recount(0, 70));
        undone(e, "spin", () -> e.spin());
        e.recount(1, 7);
        undone(e, "certify with a tie", () -> e.certify());
        undone(e, "execute", () -> Scene.execute(e, "wind;spin;certify;remove 0;ballot 3 0>1"));
    }

    private static void undone(WindElection e, String what, Due.Call modification) {
        String before = Scene.state(e);
        modification.answer();
        Due.compare(what + " changes the state", "" + Scene.state(e).equals(before), "false");
        e.undo();
        Due.compare("the state after undo of " + what, Scene.state(e), before);
    }

    private static void promise48OnlyTheLastEight() {
        WindElection e = new WindElection();
        e.addWind();
        for (int i = 0; i < 10; i++) {
            e.addBallot(i + 1, 0);
        }
        for (int left = 7; left >= 0; left--) {
            int due = left;
            Due.answer("undo", due, () -> e.undo());
            Due.answer("the ballots after undo", due + 2, () -> e.ballotCount());
        }
        Scene.refused(e, "a ninth undo", IllegalStateException.class, () -> e.undo());
        e.spin();
        e.spin();
        Due.answer("undo of the newer of two", 1, () -> e.undo());
        e.addBallot(44, 0);
        Due.answer("undo of one after an undo", 1, () -> e.undo());
        Due.compare("the state between", Scene.state(e), "s||3|1:0|2:0");
        Due.answer("undo of the older of two", 0, () -> e.undo());
        Scene.refused(e, "undo of none", IllegalStateException.class, () -> e.undo());
    }

    private static void promise48WhatIsNoModification() {
        WindElection e = Scene.withWinds(2);
        e.addBallot(5, 1);
        Due.refusal("addBallot", IllegalArgumentException.class, () -> e.addBallot(0, 0));
        Due.refusal("rank", IllegalArgumentException.class, () -> e.rank(0, 1));
        Due.refusal("withdraw", IndexOutOfBoundsException.class, () -> e.withdraw(2));
        Due.refusal("removeBallot", IndexOutOfBoundsException.class, () -> e.removeBallot(1));
        Due.refusal("recount", IllegalArgumentException.class, () -> e.recount(0, 100));
        Due.refusal("execute", IllegalStateException.class, () -> Scene.execute(e, "spin;remove 7"));
        Due.refusal("execute", IllegalArgumentException.class, () -> Scene.execute(e, "spin;"));
        e.writeBallot(0);
        e.writeCount();
        e.winner();
        e.isConsistent();
        e.save();
        e.type('s');
        Due.answer("undo", 2, () -> e.undo());
        Due.compare("the state after undo", Scene.state(e), "ss||0");
        Scene.type(e, "pin");
        Due.answer("the text outlives undo", 1, () -> e.execute());
        Due.answer("undo of execute", 2, () -> e.undo());
    }

    private static void promise49Save() {
        WindElection e = Scene.withWinds(2);
        Due.answer("save without ballots", 0, () -> e.save());
        e.addBallot(5, 1);
        e.addBallot(6, 1);
        Due.answer("save", 2, () -> e.save());
        Due.answer("undo after save", 3, () -> e.undo());
        e.withdraw(0);
        e.spin();
        Due.answer("restore of the later snapshot", 2, () -> e.restore());
        Due.compare("the state after restore", Scene.state(e), "ss||0|5:1|6:1");
    }

    private static void promise50Restore() {
        WindElection e = Scene.withWinds(3);
        Scene.refused(e, "restore without save", IllegalStateException.class, () -> e.restore());
        Scene.ballot(e, 5, "120");
        Scene.ballot(e, 5, "02");
        e.spin();
        e.withdraw(2);
        e.certify();
        String saved = Scene.state(e);
        e.save();
        e.addWind();
        e.removeBallot(0);
        e.recount(0, 7);
        e.rank(0, 3);
        e.certify();
        Due.answer("restore", 2, () -> e.restore());
        Due.compare("the state after restore", Scene.state(e), saved);
        Scene.refused(e, "undo after restore", IllegalStateException.class, () -> e.undo());
        e.spin();
        Due.answer("undo of what came after restore", 0, () -> e.undo());
        Due.compare("the state after that undo", Scene.state(e), saved);
        e.removeBallot(1);
        e.undo();
        e.addWind();
        Due.answer("restore again", 2, () -> e.restore());
        Due.compare("the state after the second restore", Scene.state(e), saved);
    }
}
