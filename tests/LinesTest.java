/** Promises 39 to 43. */
public final class LinesTest {
    public static void main(String[] args) {
        promise39WriteBallot();
        promise40WriteCount();
        promise41LineAt();
        promise42MeanRanks();
        promise43IsConsistent();
        Due.finish();
    }

    private static void promise39WriteBallot() {
        WindElection e = Scene.withWinds(8);
        Scene.ballot(e, 7, "204");
        Scene.ballot(e, 99, "76543");
        Scene.ballot(e, 10, "1");
        Due.answer("writeBallot(0)", 8, () -> e.writeBallot(0));
        Due.compare("the line", Scene.line(e, 8), "7: 2>0>4");
        Due.answer("writeBallot(1)", 13, () -> e.writeBallot(1));
        Due.compare("the longest line", Scene.line(e, 13), "99: 7>6>5>4>3");
        Due.answer("writeBallot(2)", 5, () -> e.writeBallot(2));
        Due.compare("a short line after a long one", Scene.line(e, 5), "10: 1");
        Due.refusal("lineAt(5) of a line of 5", IndexOutOfBoundsException.class, () -> e.lineAt(5));
        Due.refusal("writeBallot(3)", IndexOutOfBoundsException.class, () -> e.writeBallot(3));
        Due.refusal("writeBallot(-1)", IndexOutOfBoundsException.class, () -> e.writeBallot(-1));
        Due.compare("the line after refusals", Scene.line(e, 5), "10: 1");
    }

    private static void promise40WriteCount() {
        WindElection e = Scene.withWinds(4);
        Scene.ballot(e, 5, "0");
        Scene.ballot(e, 4, "1");
        Scene.ballot(e, 4, "2");
        Scene.ballot(e, 1, "3");
        Due.answer("writeCount", 6, () -> e.writeCount());
        Due.compare("the line", Scene.line(e, 6), "3-2*0!");
        Due.refusal("lineAt(6)", IndexOutOfBoundsException.class, () -> e.lineAt(6));
        e.recount(0, 50);
        Due.answer("writeCount of one round", 2, () -> e.writeCount());
        Due.compare("the line of one round", Scene.line(e, 2), "0!");
        for (int i = 0; i < 4; i++) {
            e.withdraw(i);
        }
        Due.answer("writeCount of none", 0, () -> e.writeCount());
        Due.refusal("lineAt(0) of none", IndexOutOfBoundsException.class, () -> e.lineAt(0));
        WindElection all = Scene.withWinds(8);
        Due.answer("the longest writeCount", 16, () -> all.writeCount());
        Due.compare("the longest line", Scene.line(all, 16), "3*2*1*7*6*0*5*4!");
    }

    private static void promise41LineAt() {
        WindElection e = new WindElection();
        Due.refusal("lineAt(0) at first", IndexOutOfBoundsException.class, () -> e.lineAt(0));
        Due.refusal("lineAt(-1) at first", IndexOutOfBoundsException.class, () -> e.lineAt(-1));
        e.addWind();
        e.addBallot(12, 0);
        e.writeBallot(0);
        Due.answer("lineAt(0)", '1', () -> e.lineAt(0));
        Due.answer("lineAt(2)", ':', () -> e.lineAt(2));
        Due.answer("lineAt(3)", ' ', () -> e.lineAt(3));
        Due.answer("lineAt(4)", '0', () -> e.lineAt(4));
        Due.refusal("lineAt(5)", IndexOutOfBoundsException.class, () -> e.lineAt(5));
        Due.refusal("lineAt(60)", IndexOutOfBoundsException.class, () -> e.lineAt(60));
        Due.refusal("lineAt(-1)", IndexOutOfBoundsException.class, () -> e.lineAt(-1));
        e.undo();
        e.save();
        e.restore();
        Due.compare("the line after undo and restore", Scene.line(e, 5), "12: 0");
    }

    private static void promise42MeanRanks() {
        WindElection e = Scene.withWinds(5);
        Due.refusal("meanRanks of none", ArithmeticException.class, () -> e.meanRanks());
        Scene.ballot(e, 50, "01234");
        Due.answer("meanRanks of one", 5.0, () -> e.meanRanks());
        Scene.ballot(e, 1, "0");
        Scene.ballot(e, 1, "2");
        Due.answer("meanRanks of three", 7.0 / 3.0, () -> e.meanRanks());
        e.removeBallot(0);
        e.removeBallot(0);
        e.removeBallot(0);
        Due.refusal("meanRanks when all are removed", ArithmeticException.class, () -> e.meanRanks());
    }

    private static void promise43IsConsistent() {
        WindElection e = new WindElection();
        Due.answer("isConsistent of none", true, () -> e.isConsistent());
        Scene.execute(e, "wind;wind;wind;wind");
        Due.answer("isConsistent without ballots", true, () -> e.isConsistent());
        Scene.ballot(e, 1, "012");
        Scene.ballot(e, 1, "120");
        Scene.ballot(e, 1, "201");
        Due.answer("isConsistent with a circle", true, () -> e.isConsistent());
        Scene.ballot(e, 2, "3");
        Due.answer("isConsistent with an exhausted ballot to come", true, () -> e.isConsistent());
        e.withdraw(3);
        Due.answer("isConsistent with an exhausted ballot", true, () -> e.isConsistent());
        e.certify();
        Due.answer("isConsistent with a seat", true, () -> e.isConsistent());
    }
}
