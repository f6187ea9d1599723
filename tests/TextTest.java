import java.util.NoSuchElementException;

/** Promises 44 to 47. */
public final class TextTest {
    public static void main(String[] args) {
        promise44Type();
        promise45ExecuteEachCommand();
        promise45ExecuteBallots();
        promise45ExecuteAllOrNone();
        promise45LongestTexts();
        promises45And46Malformed();
        promise46ErrorPosition();
        promise47FailedCommand();
        Due.finish();
    }

    private static void promise44Type() {
        WindElection e = new WindElection();
        Due.refusal("type(31)", IllegalArgumentException.class, () -> e.type((char) 31));
        Due.refusal("type(127)", IllegalArgumentException.class, () -> e.type((char) 127));
        Due.refusal("type(0)", IllegalArgumentException.class, () -> e.type((char) 0));
        Due.refusal("type(65535)", IllegalArgumentException.class, () -> e.type((char) 65535));
        Due.answer("type(32)", 1, () -> e.type((char) 32));
        Due.answer("type(126)", 2, () -> e.type((char) 126));
        for (int i = 3; i <= 60; i++) {
            Due.answer("type as number " + i, i, () -> e.type('x'));
        }
        Due.refusal("type as number 61", IllegalStateException.class, () -> e.type('x'));
        Due.refusal("type(31) as number 61", IllegalArgumentException.class, () -> e.type((char) 31));
        Due.refusal("execute of it", IllegalArgumentException.class, () -> e.execute());
        Due.answer("type after execute", 1, () -> e.type('x'));
    }

    private static void promise45ExecuteEachCommand() {
        WindElection e = new WindElection();
        Due.answer("wind", 3, () -> Scene.execute(e, "wind;wind;wind"));
        Due.compare("the state after wind", Scene.state(e), "sss||0");
        Due.answer("withdraw", 1, () -> Scene.execute(e, "withdraw 1"));
        Due.compare("the state after withdraw", Scene.state(e), "sws||0");
        Due.answer("ballot", 2, () -> Scene.execute(e, "ballot 7 2>0>1;ballot 08 0"));
        Due.compare("the state after ballot", Scene.state(e), "sws||0|7:201|8:0");
        Due.answer("rank", 1, () -> Scene.execute(e, "rank 01 2"));
        Due.compare("the state after rank", Scene.state(e), "sws||0|7:201|8:02");
        Due.answer("recount", 1, () -> Scene.execute(e, "recount 0 99"));
        Due.compare("the state after recount", Scene.state(e), "sws||0|99:201|8:02");
        Due.answer("spin", 2, () -> Scene.execute(e, "spin;spin"));
        Due.compare("the state after spin", Scene.state(e), "sws||2|99:201|8:02");
        Due.answer("remove", 1, () -> Scene.execute(e, "remove 0"));
        Due.compare("the state after remove", Scene.state(e), "sws||2|8:02");
        Due.answer("certify", 1, () -> Scene.execute(e, "certify"));
        Due.compare("the state after certify", Scene.state(e), "tws|0|2|8:02");
        Due.refusal("errorPosition", NoSuchElementException.class, () -> e.errorPosition());
        Due.refusal("failedCommand", NoSuchElementException.class, () -> e.failedCommand());
    }

    private static void promise45ExecuteBallots() {
        WindElection e = Scene.withWinds(8);
        Due.answer("a full ballot", 1, () -> Scene.execute(e, "ballot 1 7>6>5>4>3"));
        fails(e, "ballot 1 7>6>5>4>3>2", 0);
        fails(e, "ballot 1 7>6>7", 0);
        fails(e, "ballot 1 8", 0);
        fails(e, "ballot 1 0>8", 0);
        fails(e, "ballot 0 1", 0);
        fails(e, "ballot 00 1>2", 0);
        fails(e, "rank 0 2", 0);
        fails(e, "rank 0 7", 0);
        fails(e, "rank 1 0", 0);
        fails(e, "remove 1", 0);
        fails(e, "recount 1 1", 0);
        fails(e, "recount 0 0", 0);
        fails(e, "withdraw 9", 0);
        fails(e, "wind", 0);
        fails(e, "ballot 1 0>1>2>3>4>5>6>7>0>1>2>3>4>5>6>7>0>1>2>3>4>5>6>7>0>1", 0);
        for (int i = 1; i < 20; i++) {
            e.addBallot(1, 0);
        }
        fails(e, "remove 19;ballot 1 1;ballot 1 1>2", 2);
        fails(e, "ballot 1 0", 0);
    }

    private static void fails(WindElection e, String text, int command) {
        Scene.refused(e, text, IllegalStateException.class, () -> Scene.execute(e, text));
        Due.answer("failedCommand of " + text, command, () -> e.failedCommand());
        Due.answer("type after " + text, 1, () -> e.type('w'));
        Due.answer("the text that is malformed", "throws.IllegalArgumentException", () -> e.execute());
    }

    private static void promise45ExecuteAllOrNone() {
        WindElection e = Scene.withWinds(2);
        Scene.ballot(e, 5, "01");
        Scene.ballot(e, 6, "1");
        fails(e, "spin;wind;certify;remove 0;recount 0 9;rank 0 1", 5);
        fails(e, "withdraw 0;withdraw 0", 1);
        fails(e, "certify;certify;certify", 2);
        fails(e, "certify;withdraw 1", 1);
        Due.answer("text that goes well", 3, () -> Scene.execute(e, "certify;withdraw 0;ballot 1 0>1"));
        Due.compare("the state after it", Scene.state(e), "wt|1|0|5:01|6:1|1:01");
        fails(e, "spin;certify", 1);
    }

    private static void promise45LongestTexts() {
        WindElection e = Scene.withWinds(1);
        Due.answer("twelve commands", 12,
                () -> Scene.execute(e, "spin;spin;spin;spin;spin;spin;spin;spin;spin;spin;spin;spin"));
        Due.answer("the spinner after twelve", 12, () -> e.spinValue());
        Scene.type(e, "spin;spin;spin;spin;spin;spin;spin;spin;spin;spin;spin;spin;");
        Due.refusal("a text of 60 that ends in ;", IllegalArgumentException.class, () -> e.execute());
        Due.answer("its errorPosition", 60, () -> e.errorPosition());
        WindElection full = Scene.withWinds(3);
        String text = "ballot 10 0>1>2;ballot 20 1>2>0;ballot 30 2>0>1;recount 2 31";
        Due.compare("the length of the longest text", "" + text.length(), "60");
        Due.answer("a text of 60", 4, () -> Scene.execute(full, text));
        Due.compare("the state after it", Scene.state(full), "sss||0|10:012|20:120|31:201");
    }

    private static void malformed(String text, int position) {
        WindElection e = Scene.withWinds(2);
        e.addBallot(5, 0);
        Scene.type(e, text);
        Scene.refused(e, "'" + text + "'", IllegalArgumentException.class, () -> e.execute());
        Due.answer("errorPosition of '" + text + "'", position, () -> e.errorPosition());
        Due.answer("type after '" + text + "'", 1, () -> e.type(' '));
    }

    private static void promises45And46Malformed() {
        malformed("", 0);
        malformed(" ", 0);
        malformed(";", 0);
        malformed("x", 0);
        malformed("Wind", 0);
        malformed("w", 1);
        malformed("win", 3);
        malformed("wint", 3);
        malformed("wit", 3);
        malformed("wix", 2);
        malformed("wind ", 4);
        malformed("wind;", 5);
        malformed("wind; wind", 5);
        malformed("wind;;", 5);
        malformed("winds", 4);
        malformed("withdraw", 8);
        malformed("withdraw1", 8);
        malformed("withdraw ", 9);
        malformed("withdraw  1", 9);
        malformed("withdraw x", 9);
        malformed("withdraw 10", 10);
        malformed("withdraw 1 ", 10);
        malformed("ballot 1", 8);
        malformed("ballot 12", 9);
        malformed("ballot 123 0", 9);
        malformed("ballot 1>0", 8);
        malformed("ballot 1 ", 9);
        malformed("ballot 1 0>", 11);
        malformed("ballot 1 01", 10);
        malformed("ballot 1 0>10", 12);
        malformed("ballot 1 0> 1", 11);
        malformed("ballot 1 0 >1", 10);
        malformed("ballot -1 0", 7);
        malformed("ballo", 5);
        malformed("ballott", 6);
        malformed("r", 1);
        malformed("re", 2);
        malformed("rex", 2);
        malformed("rac", 2);
        malformed("reco", 4);
        malformed("rem", 3);
        malformed("rank 1", 6);
        malformed("rank 1 22", 8);
        malformed("rank 100", 7);
        malformed("rank 1 1>1", 8);
        malformed("remove", 6);
        malformed("remove a", 7);
        malformed("remove 123", 9);
        malformed("remove 1 1", 8);
        malformed("recount 1", 9);
        malformed("recount 1;", 9);
        malformed("recount 1 ", 10);
        malformed("recount 11 222", 13);
        malformed("recount 1 2 3", 11);
        malformed("spin 1", 4);
        malformed("sp;", 2);
        malformed("certify;certif", 14);
        malformed("certifi", 6);
        malformed("withdraw 9;remove 99;wind;x", 26);
    }

    private static void promise46ErrorPosition() {
        WindElection e = new WindElection();
        Due.refusal("errorPosition at first", NoSuchElementException.class, () -> e.errorPosition());
        Scene.execute(e, "wind");
        Due.refusal("execute", IllegalStateException.class, () -> Scene.execute(e, "withdraw 1"));
        Due.refusal("errorPosition when none was malformed", NoSuchElementException.class, () -> e.errorPosition());
        Due.refusal("execute", IllegalArgumentException.class, () -> Scene.execute(e, "wind;xyz"));
        Due.answer("errorPosition", 5, () -> e.errorPosition());
        e.type('x');
        Scene.state(e);
        Due.refusal("execute", IllegalArgumentException.class, () -> Scene.execute(e, "yz"));
        Due.answer("errorPosition of the next", 0, () -> e.errorPosition());
        Due.refusal("execute", IllegalArgumentException.class, () -> Scene.execute(e, "spin "));
        Scene.execute(e, "spin");
        Due.refusal("execute", IllegalStateException.class, () -> Scene.execute(e, "remove 0"));
        e.undo();
        e.save();
        e.restore();
        Due.answer("errorPosition stays", 4, () -> e.errorPosition());
    }

    private static void promise47FailedCommand() {
        WindElection e = new WindElection();
        Due.refusal("failedCommand at first", NoSuchElementException.class, () -> e.failedCommand());
        Due.refusal("execute", IllegalArgumentException.class, () -> Scene.execute(e, "x"));
        Scene.execute(e, "wind");
        Due.refusal("failedCommand when none failed", NoSuchElementException.class, () -> e.failedCommand());
        Due.refusal("execute", IllegalStateException.class, () -> Scene.execute(e, "spin;spin;remove 0;remove 1"));
        Due.answer("failedCommand", 2, () -> e.failedCommand());
        Due.refusal("execute", IllegalArgumentException.class, () -> Scene.execute(e, "x"));
        Scene.execute(e, "spin");
        e.undo();
        e.save();
        e.restore();
        Due.answer("failedCommand stays", 2, () -> e.failedCommand());
        Due.refusal("execute", IllegalStateException.class, () -> Scene.execute(e, "remove 0"));
        Due.answer("failedCommand of the next", 0, () -> e.failedCommand());
    }
}
