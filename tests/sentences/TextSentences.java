import java.util.Map;
import java.util.TreeMap;

/** What the document says of texts: promises 44 to 47, and the terms. */
final class TextSentences {
    /** Stands for the error position of a text that is not malformed. */
    private static final int NO_ERROR = -1;
    private static final String SIXTY = "ballot 10 0>1>2;ballot 20 1>2>0;ballot 30 2>0>1;recount 2 31";

    private TextSentences() {
    }

    static void check() {
        bufferOfSixty();
        grammar();
        commandsAndCalls();
        commandsThatFail();
        errorPositionOfMalformedTexts();
        type();
        typeRefused();
        execute();
        allOrNone();
        executeRefused();
        errorPosition();
        failedCommand();
    }

    private static void bufferOfSixty() {
        Document.terms("Characters are collected in a buffer of at most 60 characters.");
        Given given = Given.winds(3);
        for (int length = 0; length < 60; length++) {
            given.answers(length + 1, "type", SIXTY.charAt(length));
            given = given.after("type", SIXTY.charAt(length));
        }
        given.refuses(Given.STATE, "type", '1');
        String state = "sss||0|10:012|20:120|31:201";
        Given.winds(3).executes(4, state, SIXTY);
        Given.winds(3).executes(4, state.replace("31", "3"), SIXTY.substring(0, 59));
        Given.winds(3).executes(4, state, SIXTY + "1");
    }

    /** What can follow behind a beginning of a text; a beginning that is a text itself has a '.' among it. */
    private static Map<String, String> beginnings() {
        String digit = "0123456789";
        Map<String, String> next = new TreeMap<>();
        next.put("", "wbrsc");
        next.put("w", "i");
        next.put("wi", "nt");
        next.put("r", "ae");
        next.put("re", "mc");
        letters(next, "win", "d");
        letters(next, "wit", "hdraw");
        letters(next, "b", "allot");
        letters(next, "ra", "nk");
        letters(next, "rem", "ove");
        letters(next, "rec", "ount");
        letters(next, "s", "pin");
        letters(next, "c", "ertify");
        for (String whole : new String[] {"wind", "withdraw 0", "withdraw 9", "rank 1 2", "rank 12 3", "remove 12",
            "remove 00", "recount 1 23", "recount 12 34", "spin", "certify"}) {
            next.put(whole, ";.");
        }
        for (String mayHaveMore : new String[] {"ballot 1 2", "ballot 12 3", "ballot 1 2>3", "ballot 12 3>4>5",
            "ballot 1 0>1>2>3>4>5>6>7"}) {
            next.put(mayHaveMore, ">;.");
        }
        for (String oneDigit : new String[] {"remove 1", "remove 0", "recount 1 2", "recount 12 3"}) {
            next.put(oneDigit, digit + ";.");
        }
        for (String first : new String[] {"ballot 1", "rank 1", "recount 1", "ballot 0", "rank 9"}) {
            next.put(first, digit + " ");
        }
        for (String blank : new String[] {"withdraw", "ballot", "ballot 12", "rank", "rank 12", "remove", "recount",
            "recount 12"}) {
            next.put(blank, " ");
        }
        for (String number : new String[] {"withdraw ", "ballot ", "ballot 1 ", "ballot 12 ", "ballot 1 2>",
            "ballot 12 3>4>", "rank ", "rank 1 ", "rank 12 ", "remove ", "recount ", "recount 1 ", "recount 12 "}) {
            next.put(number, digit);
        }
        return next;
    }

    private static void letters(Map<String, String> next, String beginning, String letters) {
        for (int i = 0; i < letters.length(); i++) {
            next.put(beginning + letters.substring(0, i), letters.substring(i, i + 1));
        }
    }

    private static void grammar() {
        Document.terms("A command text has the following grammar, with terminals in quotes: text = command { \";\" "
                + "command }; command = \"wind\" | \"withdraw\" d | \"ballot\" n d { \">\" digit } | \"rank\" n d | "
                + "\"remove\" n | \"recount\" n n | \"spin\" | \"certify\"; d is a blank and a decimal digit, and n is a "
                + "blank and one or two decimal digits.");
        for (Map.Entry<String, String> beginning : beginnings().entrySet()) {
            for (String ahead : new String[] {"", "spin;", "wind;remove 1;", "ballot 1 2>3;", "recount 1 2;certify;"}) {
                String text = ahead + beginning.getKey();
                boolean isText = beginning.getValue().contains(".");
                errorIs(isText ? NO_ERROR : text.length(), text);
                for (char character = 32; character <= 126; character++) {
                    if (character != '.' && beginning.getValue().indexOf(character) >= 0) {
                        errorIsNotAt(text.length(), text + character);
                    } else {
                        errorIs(text.length(), text + character);
                    }
                }
            }
        }
    }

    private static int errorOf(String text) {
        WindElection e = new WindElection();
        for (char character : text.toCharArray()) {
            e.type(character);
        }
        boolean isMalformed = new Call("execute").on(e).equals(Given.ARGUMENT);
        return isMalformed ? e.errorPosition() : NO_ERROR;
    }

    private static void errorIs(int due, String text) {
        Due.compare("the error position of '" + text + "'", "" + errorOf(text), "" + due);
    }

    /** A character that can follow is no error, though the text may end too early behind it. */
    private static void errorIsNotAt(int position, String text) {
        int error = errorOf(text);
        Due.compare("the error position of '" + text + "'", "" + (error == position ? error : NO_ERROR), "" + NO_ERROR);
    }

    private static void commandsAndCalls() {
        Document.terms("The command \"ballot\" stands for addBallot with the weight and the first wind, and rank for "
                + "each further wind on this ballot; the other commands stand for addWind, withdraw, rank, removeBallot, "
                + "recount, spin and certify, with their parameters in order.");
        Given given = Given.winds(5).ballot(7, "204").ballot(9, "3");
        String state = "sssss||0|7:204|9:3";
        given.executes(1, "ssssss||0|7:204|9:3", "wind");
        given.executes(1, "sswss||0|7:204|9:3", "withdraw 2");
        given.executes(1, state + "|3:1", "ballot 3 1");
        given.executes(1, state + "|3:1", "ballot 03 1");
        given.executes(1, state + "|42:1", "ballot 42 1");
        given.executes(1, state + "|42:13", "ballot 42 1>3");
        given.executes(1, state + "|99:43210", "ballot 99 4>3>2>1>0");
        given.executes(1, "sssss||0|7:204|9:30", "rank 1 0");
        given.executes(1, "sssss||0|7:2041|9:3", "rank 00 1");
        given.executes(1, "sssss||0|9:3", "remove 0");
        given.executes(1, "sssss||0|7:204", "remove 01");
        given.executes(1, "sssss||0|7:204|1:3", "recount 1 1");
        given.executes(1, "sssss||0|10:204|9:3", "recount 00 10");
        given.executes(1, "sssss||3|7:204|9:3", "spin");
        given.executes(1, "sssts|3|0|7:204|9:3", "certify");
        Given twenty = Given.ballots(20).after("addWind");
        twenty.executes(1, "ss||0" + "|7:0".repeat(19) + "|7:01", "rank 19 1");
        twenty.executes(1, "ss||0" + "|7:0".repeat(10) + "|99:0" + "|7:0".repeat(9), "recount 10 99");
        twenty.executes(1, "ss||0" + "|7:0".repeat(19), "remove 19");
        Given.winds(8).executes(1, "sssssssw||0", "withdraw 7");
        Given.ballots(19).executes(1, "s||0" + "|7:0".repeat(19) + "|1:0", "ballot 1 0");
        Given.winds(4).executes(1, "tsss|0|13", "certify");
    }

    private static void commandsThatFail() {
        Document.terms("A command fails if one of its methods would throw an exception.");
        Given.winds(8).failsIn(0, "wind");
        Given.winds(8).failsIn(0, "withdraw 8");
        Given.winds(8).failsIn(0, "withdraw 9");
        Given.nothing().failsIn(0, "withdraw 0");
        Given.winds(2).after("withdraw", 1).failsIn(0, "withdraw 1");
        Given.winds(2).after("certify").failsIn(0, "withdraw 0");
        Given.winds(2).failsIn(0, "ballot 1 2");
        Given.winds(2).failsIn(0, "ballot 0 1");
        Given.winds(2).failsIn(0, "ballot 00 1>0");
        Given.winds(2).failsIn(0, "ballot 1 0>2");
        Given.winds(2).failsIn(0, "ballot 1 1>0>1");
        Given.winds(2).failsIn(0, "ballot 1 1>1");
        Given.winds(8).failsIn(0, "ballot 1 7>6>5>4>3>2");
        Given.winds(8).failsIn(0, "ballot 1 0>1>2>3>4>5>6>7>0>1>2>3>4>5>6>7>0>1>2>3>4>5>6>7>0>1");
        Given.ballots(20).failsIn(0, "ballot 1 0");
        Given.ballots(20).after("addWind").failsIn(0, "ballot 1 0>1");
        Given ballots = Given.winds(7).ballot(5, "01234").ballot(6, "5");
        ballots.failsIn(0, "rank 2 0");
        ballots.failsIn(0, "rank 99 0");
        ballots.failsIn(0, "rank 1 7");
        ballots.failsIn(0, "rank 1 5");
        ballots.failsIn(0, "rank 0 4");
        ballots.failsIn(0, "rank 0 5");
        ballots.failsIn(0, "remove 2");
        ballots.failsIn(0, "remove 20");
        ballots.failsIn(0, "recount 2 1");
        ballots.failsIn(0, "recount 1 0");
        ballots.failsIn(0, "recount 1 00");
        Given.ballots(20).failsIn(0, "remove 20");
        Given.nothing().failsIn(0, "certify");
        Given.winds(1).after("withdraw", 0).failsIn(0, "certify");
        Given.winds(1).after("certify").failsIn(0, "certify");
    }

    private static void errorPositionOfMalformedTexts() {
        Document.terms("The error position of a malformed text is the index of its first character that cannot continue "
                + "any valid text, or its length if it ends too early.");
        Given given = Given.winds(2).ballot(5, "0");
        given.isMalformedAt(0, "");
        given.isMalformedAt(0, " ");
        given.isMalformedAt(0, ";");
        given.isMalformedAt(0, "x");
        given.isMalformedAt(0, "Wind");
        given.isMalformedAt(0, "~ind");
        given.isMalformedAt(3, "win");
        given.isMalformedAt(3, "wint");
        given.isMalformedAt(4, "wind ");
        given.isMalformedAt(4, "windd");
        given.isMalformedAt(5, "wind;");
        given.isMalformedAt(5, "wind; wind");
        given.isMalformedAt(5, "wind;;wind");
        given.isMalformedAt(8, "withdraw");
        given.isMalformedAt(9, "withdraw ");
        given.isMalformedAt(10, "withdraw 10");
        given.isMalformedAt(9, "withdraw -1");
        given.isMalformedAt(9, "ballot 123 0");
        given.isMalformedAt(11, "ballot 1 0>");
        given.isMalformedAt(12, "ballot 1 0>10");
        given.isMalformedAt(9, "remove 123");
        given.isMalformedAt(13, "recount 11 222");
        given.isMalformedAt(26, "withdraw 9;remove 99;wind;x");
        given.isMalformedAt(58, "spin;spin;spin;spin;spin;spin;spin;spin;spin;spin;spin;spix");
        given.isMalformedAt(60, "spin;spin;spin;spin;spin;spin;spin;spin;spin;spin;spin;spin;");
        given.isMalformedAt(60, "wind;spin;spin;spin;spin;spin;spin;spin;spin;spin;spin;spin;");
        given.isMalformedAt(60, "wind;spin;spin;spin;spin;spin;spin;spin;spin;spin;recount 11");
        given.isMalformedAt(59, "wind;spin;spin;spin;spin;spin;spin;spin;spin;spin;recount 1x");
        given.isMalformedAt(59, "wind;spin;spin;spin;spin;spin;spin;spin;spin;spin;spin;spin ");
        given.isMalformedAt(60, SIXTY.substring(0, 48) + "recount 2 3;");
    }

    private static void type() {
        Document.promise(44, "Appends a character to the text buffer.", "Returns the number of characters in the buffer.");
        Given given = Given.nothing();
        for (int length = 1; length <= 60; length++) {
            given.answers(length, "type", 'x');
            given = given.after("type", 'x');
        }
        Given.winds(1).typed("spi").answers(4, "type", 'n');
        Given.winds(1).executes(1, "s||3", "spin");
        Given.winds(1).executed("spin").answers(1, "type", 's');
        Given.winds(1).executed("spim").answers(1, "type", 's');
        Given.winds(1).executed("certify;certify").answers(1, "type", 's');
        for (char character = 32; character <= 126; character++) {
            Given.nothing().typed("wi").answers(3, "type", character);
        }
    }

    private static void typeRefused() {
        Document.promise(44, "Throws `IllegalArgumentException` if the character is not from 32 to 126");
        for (int code : new int[] {0, 9, 10, 30, 31, 127, 128, 160, 233, 255, 256, 288, 32767, 32768, 65535}) {
            Given.nothing().refuses(Given.ARGUMENT, "type", (char) code);
            Given.winds(1).typed("spi").refuses(Given.ARGUMENT, "type", (char) code);
        }
        Given.nothing().answers(1, "type", (char) 32);
        Given.nothing().answers(1, "type", (char) 33);
        Given.nothing().answers(1, "type", (char) 125);
        Given.nothing().answers(1, "type", (char) 126);
        Document.promise(44, "Throws `IllegalStateException` if the buffer contains 60 characters");
        Given.nothing().times(58, "type", 'x').answers(59, "type", 'x');
        Given.nothing().times(59, "type", 'x').answers(60, "type", 'x');
        Given.nothing().times(60, "type", 'x').refuses(Given.STATE, "type", 'x');
        Given.nothing().times(61, "type", 'x').refuses(Given.STATE, "type", 'x');
        Given.nothing().times(61, "type", 'x').after("execute").answers(1, "type", 'x');
        Given.winds(3).typed(SIXTY).refuses(Given.STATE, "type", ';');
        Given.winds(3).executed(SIXTY).answers(1, "type", 'x');
    }

    private static void execute() {
        Document.promise(45, "Executes the text in the buffer, which is empty afterwards.");
        Given.winds(1).executes(2, "ss||3", "wind;spin");
        Given.winds(1).executed("wind;spin").answers(1, "type", 'x');
        Given.winds(1).executed("wind;spin").answers(Given.ARGUMENT, "execute");
        Given.winds(1).executed("wind;x").answers(1, "type", 'x');
        Given.winds(1).executed("wind;remove 9").answers(1, "type", 'x');
        Given.winds(1).executed("wind;x").executed("spin").tells(3, "spinValue");
        Given.winds(1).executed("wind;remove 9").executed("spin").tells(3, "spinValue");
        Document.promise(45, "Returns the number of commands.");
        String spins = "spin";
        for (int number = 1; number <= 12; number++) {
            Given spun = Given.winds(1).times(number, "spin");
            Given.winds(1).executes(number, spun.state(), spins);
            spins += ";spin";
        }
        Given.winds(8).executes(1, "ssssssss||0|1:01234", "ballot 1 0>1>2>3>4");
    }

    private static void allOrNone() {
        Document.promise(45, "The commands are executed in order, all of them or none: if a command fails, the effects "
                + "of the commands before it are taken back.");
        Given given = Given.winds(2).ballot(5, "01").ballot(6, "1");
        given.executes(3, "wt|1|0|5:01|6:1|1:01", "certify;withdraw 0;ballot 1 0>1");
        given.executes(3, "wt|1|0|6:1", "certify;withdraw 0;remove 0");
        given.executes(4, "ss||0|9:1|8:0", "remove 0;recount 0 9;ballot 5 0;recount 1 8");
        given.executes(5, "ssw||3|5:01|6:102", "wind;rank 1 0;rank 1 2;withdraw 2;spin");
        given.failsIn(5, "spin;wind;certify;remove 0;recount 0 9;rank 0 1");
        given.failsIn(1, "withdraw 0;withdraw 0");
        given.failsIn(2, "certify;certify;certify");
        given.failsIn(1, "certify;withdraw 1");
        given.failsIn(1, "remove 1;remove 1");
        given.failsIn(1, "ballot 5 0;rank 2 0;spin");
        given.failsIn(2, "spin;ballot 5 0>1;ballot 5 0>1>0;spin");
        Given.winds(7).failsIn(1, "wind;wind");
        Given.ballots(20).failsIn(2, "remove 19;ballot 1 0;ballot 2 0");
        Given.ballots(19).failsIn(1, "ballot 1 0;ballot 1 0");
        Given eight = Given.winds(1).times(9, "spin");
        eight.failsIn(2, "spin;spin;remove 0");
        eight.executes(3, "ss||5", "spin;spin;wind");
    }

    private static void executeRefused() {
        Document.promise(45, "Throws `IllegalArgumentException` if the text is malformed; its error position is stored");
        Given given = Given.winds(2);
        given.isMalformedAt(0, "");
        given.isMalformedAt(7, "wind;wix");
        given.isMalformedAt(5, "wind;");
        given.executed("remove 0").isMalformedAt(5, "spin;x");
        given.executed("abc").isMalformedAt(5, "spin;x");
        Document.promise(45, "Throws `IllegalStateException` if a command fails; its index is stored");
        given.failsIn(0, "remove 0");
        given.failsIn(1, "spin;remove 0");
        given.failsIn(8, "spin;spin;spin;spin;spin;spin;spin;spin;remove 0;remove 1");
        given.failsIn(11, "spin;spin;spin;spin;spin;wind;wind;wind;wind;wind;wind;wind");
        given.executed("spin;x").failsIn(1, "spin;remove 0");
        given.executed("remove 0").failsIn(1, "spin;remove 0");
    }

    private static void errorPosition() {
        Document.promise(46, "Returns the error position of the last malformed text.", "Returns the error position.");
        Given given = Given.winds(1).executed("wind;xyz");
        given.tells(5, "errorPosition");
        given.typed("xyz").tells(5, "errorPosition");
        given.executed("xyz").tells(0, "errorPosition");
        given.executed("spin").tells(5, "errorPosition");
        given.executed("remove 0").tells(5, "errorPosition");
        given.after("type", (char) 31).tells(5, "errorPosition");
        Document.promise(46, "Throws `NoSuchElementException` if no text was malformed so far");
        Given.nothing().refuses(Given.MISSING, "errorPosition");
        Given.nothing().typed("xyz").refuses(Given.MISSING, "errorPosition");
        Given.nothing().executed("spin;wind").refuses(Given.MISSING, "errorPosition");
        Given.nothing().executed("spin;remove 0").refuses(Given.MISSING, "errorPosition");
        Given.nothing().executed("").tells(0, "errorPosition");
    }

    private static void failedCommand() {
        Document.promise(47, "Returns the index of the command that failed in the last text that had one.");
        Given given = Given.winds(1).executed("spin;spin;remove 0;remove 1");
        given.tells(2, "failedCommand");
        given.executed("spin").tells(2, "failedCommand");
        given.executed("x").tells(2, "failedCommand");
        given.typed("remove 0").tells(2, "failedCommand");
        given.after("removeBallot", 0).tells(2, "failedCommand");
        given.executed("spin;remove 0").tells(1, "failedCommand");
        Document.promise(47, "Returns the index of the command, from 0.");
        given.executed("remove 0").tells(0, "failedCommand");
        Given.nothing().executed("remove 0").tells(0, "failedCommand");
        Document.promise(47, "Throws `NoSuchElementException` if no command failed so far");
        Given.nothing().refuses(Given.MISSING, "failedCommand");
        Given.nothing().typed("remove 0").refuses(Given.MISSING, "failedCommand");
        Given.nothing().executed("wind;spin").refuses(Given.MISSING, "failedCommand");
        Given.nothing().executed("remove 0;").refuses(Given.MISSING, "failedCommand");
        Given.nothing().executed("").refuses(Given.MISSING, "failedCommand");
        Given.nothing().after("removeBallot", 0).refuses(Given.MISSING, "failedCommand");
    }
}
