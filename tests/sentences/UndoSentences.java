import java.lang.reflect.Method;
import java.util.Arrays;
import java.util.Set;

/** What the document says of undo and snapshots: promises 48 to 50, the terms, and the 512 calls of an object. */
final class UndoSentences {
    private static final Set<String> NO_QUESTIONS = Set.of("addWind", "withdraw", "addBallot", "rank", "removeBallot",
            "recount", "spin", "certify", "execute", "undo", "restore");
    /** The state of much(), in two parts. */
    private static final String WINDS = "tssws|0|3";
    private static final String BALLOTS = "|5:120|6:02";

    private UndoSentences() {
    }

    static void check() {
        fiveHundredAndTwelveCalls();
        lastEightModifications();
        nineKindsOfModifications();
        noModifications();
        whatIsNotUndone();
        undo();
        undoRefused();
        save();
        restore();
        nothingToUndoAfterRestore();
        restoreRefused();
    }

    /** All kinds of winds, two ballots, a spinner that has been spun, and more than eight modifications. */
    private static Given much() {
        return Given.winds(5).ballot(5, "120").ballot(6, "02").after("spin").after("withdraw", 3).after("certify");
    }

    private static Given spins(int number) {
        return Given.nothing().times(number, "spin");
    }

    private static void undosAre(Given given, String due) {
        given.compare("what can be undone", Look.undos(given), due);
    }

    private static void fiveHundredAndTwelveCalls() {
        Document.quote("What it is", "An object is used for at most 512 calls after it has been made; what later calls "
                + "answer is free.");
        spins(510).answers(9, "spin");
        spins(511).answers(0, "spin");
        spins(511).answers(9, "spinValue");
        spins(511).answers(7, "undo");
        spins(511).answers(0, "addWind");
        spins(511).answers(Given.MISSING, "certify");
        spins(511).answers(true, "isConsistent");
        Given.winds(511).answers(Given.STATE, "addWind");
        Given.winds(511).answers(8, "standingCount");
        Given.ballots(510).answers(20, "ballotCount");
        Given.winds(8).times(503, "certify").answers(8, "seatCount");
        Given.nothing().times(511, "type", 'x').answers(Given.STATE, "type", 'x');
        Given.nothing().times(511, "execute").answers(Given.ARGUMENT, "execute");
        Given.nothing().times(511, "save").answers(0, "restore");
    }

    private static void lastEightModifications() {
        Document.terms("The last 8 successful modifications can be undone.");
        for (int number = 0; number <= 20; number++) {
            int most = Math.min(number, 8);
            StringBuilder due = new StringBuilder();
            for (int left = most - 1; left >= 0; left--) {
                due.append(due.isEmpty() ? "" : ", ").append(left).append(" left: s||0");
                due.append("|9:0".repeat(number - most + left));
            }
            undosAre(Given.winds(1).after("save").after("restore").times(number, "addBallot", 9, 0), "[" + due + "]");
        }
        undosAre(Given.winds(8).times(3, "undo").times(2, "spin"), "[6 left: sssss||3, 5 left: sssss||0, "
                + "4 left: ssss||0, 3 left: sss||0, 2 left: ss||0, 1 left: s||0, 0 left: ||0]");
        undosAre(spins(11).times(5, "undo").times(7, "spin"), "[7 left: ||12, 6 left: ||5, 5 left: ||10, 4 left: ||11, "
                + "3 left: ||8, 2 left: ||1, 1 left: ||6, 0 left: ||7]");
        undosAre(spins(2).times(2, "removeBallot", 0).executed("spin;wind;x").executed("spin;wind;remove 0"),
                "[1 left: ||3, 0 left: ||0]");
    }

    private static void nineKindsOfModifications() {
        Document.terms("The modifications are the successful calls of addWind, withdraw, addBallot, rank, removeBallot, "
                + "recount, spin, certify and execute.");
        for (Given given : new Given[] {much(), much().after("save").after("restore")}) {
            given.compare("the state", given.state(), WINDS + BALLOTS);
            given.changes(5, "tsswss|0|3" + BALLOTS, "addWind");
            given.changes(2, "tssww|0|3" + BALLOTS, "withdraw", 4);
            given.changes(2, WINDS + BALLOTS + "|9:3", "addBallot", 9, 3);
            given.changes(2, WINDS + BALLOTS + "3", "rank", 1, 3);
            given.changes(5, WINDS + "|6:02", "removeBallot", 0);
            given.changes(5, WINDS + "|70:120|6:02", "recount", 0, 70);
            given.changes(5, WINDS + BALLOTS, "recount", 0, 5);
            given.changes(2, "tssws|0|2" + BALLOTS, "spin");
            given.changes(2, "tstws|02|3" + BALLOTS, "certify");
            given.executes(3, "tsswss|0|2|6:02", "wind;spin;remove 0");
        }
    }

    /** Neither what the other calls answer nor what they write can be undone. */
    private static void noModifications() {
        Given given = much().after("writeBallot", 0);
        for (Method method : Call.face().values()) {
            if (!NO_QUESTIONS.contains(method.getName())) {
                Object[] arguments = new Object[method.getParameterCount()];
                Arrays.fill(arguments, method.getName().equals("type") ? (Object) 'x' : (Object) 1);
                Given asked = given.after(method.getName(), arguments);
                asked.compare("the state", Look.wholeState(asked), Look.wholeState(given));
            }
        }
    }

    private static void whatIsNotUndone() {
        Document.terms("The text buffer, the error position, the index of the failed command and the line are not part "
                + "of the state that is undone, saved or restored.");
        Given given = Given.winds(2).after("writeCount").executed("wind;x").executed("spin;remove 0").typed("spin")
                .after("save").after("addWind");
        Given later = given.after("execute").after("withdraw", 0).after("writeBallot", 0).ballot(9, "1")
                .after("writeBallot", 0).executed("x").executed("remove 1").typed("win");
        for (String name : new String[] {"undo", "restore", "save"}) {
            given.after(name).compare("the line", Look.line(given.after(name).make()), "1*0!");
            given.after(name).answers(5, "errorPosition");
            given.after(name).answers(1, "failedCommand");
            given.after(name).answers(5, "type", ';');
            given.after(name).answers(1, "execute");
            later.after(name).compare("the line", Look.line(later.after(name).make()), "9: 1");
            later.after(name).answers(0, "errorPosition");
            later.after(name).answers(0, "failedCommand");
            later.after(name).answers(4, "type", 'd');
            later.after(name).typed("d").answers(1, "execute");
        }
    }

    private static void undo() {
        Document.promise(48, "Undoes the last modification that can be undone.");
        undosTo("ssss||0", Given.winds(5));
        undosTo("sssss||0", Given.winds(5).after("withdraw", 2));
        undosTo("sssss||0", Given.winds(5).ballot(7, "3"));
        undosTo("sssss||0|7:3", Given.winds(5).ballot(7, "34"));
        undosTo("sss||0|7:20|8:1|9:0", Given.winds(3).ballot(7, "20").ballot(8, "1").ballot(9, "0")
                .after("removeBallot", 1));
        undosTo("sss||0|7:20|8:1", Given.winds(3).ballot(7, "20").ballot(8, "1").after("recount", 0, 99));
        undosTo("ssssssss||0|9:01234", Given.winds(8).ballot(9, "01234").after("removeBallot", 0).ballot(8, "76543")
                .times(5, "undo"));
        undosTo("s||3", Given.winds(1).times(2, "spin"));
        undosTo("ssss||0", Given.winds(4).after("certify"));
        undosTo("ssss||0", Given.winds(4).executed("certify;withdraw 1;ballot 5 3>2;spin;wind;recount 0 6"));
        undosTo("sssssss||0", Given.winds(8).executed("wind").after("addWind"));
        Document.promise(48, "Returns the number of modifications that can still be undone.");
        for (int number = 1; number <= 12; number++) {
            spins(number).answers(Math.min(number, 8) - 1, "undo");
            spins(number).times(Math.min(number, 8) - 1, "undo").answers(0, "undo");
        }
        spins(9).after("undo").answers(6, "undo");
        spins(9).after("undo").after("spin").answers(7, "undo");
        Given.winds(2).executed("spin;spin;spin").answers(2, "undo");
    }

    /** The state after undo, and that nothing but it has changed. */
    private static void undosTo(String state, Given given) {
        for (Given each : new Given[] {given, given.busy()}) {
            Given undone = each.after("undo");
            undone.compare("the state", undone.state(), state);
            undone.compare("the rest", Look.rest(undone), Look.rest(each));
        }
    }

    private static void undoRefused() {
        Document.promise(48, "Throws `IllegalStateException` if there is none");
        Given.nothing().refuses(Given.STATE, "undo");
        Given.nothing().after("addBallot", 1, 0).after("removeBallot", 0).refuses(Given.STATE, "undo");
        Given.nothing().executed("wind;remove 0").executed("wind;").refuses(Given.STATE, "undo");
        spins(1).answers(0, "undo");
        spins(1).after("undo").refuses(Given.STATE, "undo");
        spins(8).times(7, "undo").answers(0, "undo");
        spins(8).times(8, "undo").refuses(Given.STATE, "undo");
        spins(9).times(7, "undo").answers(0, "undo");
        spins(9).times(8, "undo").refuses(Given.STATE, "undo");
        spins(9).times(9, "undo").tells(3, "spinValue");
        spins(8).times(9, "undo").after("spin").answers(0, "undo");
    }

    private static void save() {
        Document.promise(49, "Saves the state as a snapshot, which replaces an earlier snapshot.");
        Given saved = much().after("save");
        saved.compare("the state", Look.wholeState(saved), Look.wholeState(much()));
        restoresTo(WINDS + BALLOTS, saved);
        restoresTo(WINDS + BALLOTS, saved.after("addWind").after("withdraw", 1).after("spin").after("certify"));
        restoresTo(WINDS + BALLOTS, saved.after("recount", 0, 9).after("rank", 1, 1).after("removeBallot", 0)
                .ballot(7, "1"));
        restoresTo(WINDS + BALLOTS, saved.times(8, "undo"));
        restoresTo(WINDS + BALLOTS, saved.executed("certify;remove 0;remove 0"));
        restoresTo(WINDS + "|6:02", saved.after("removeBallot", 0).after("save").after("undo"));
        restoresTo("ssssssss||0|9:01234", Given.winds(8).ballot(9, "01234").after("save").after("removeBallot", 0)
                .ballot(8, "76543"));
        restoresTo("||0", Given.nothing().after("save").after("addWind").ballot(5, "0").after("certify"));
        restoresTo("s||0", Given.nothing().after("save").after("addWind").after("save").after("addWind"));
        Document.promise(49, "Returns the number of ballots.");
        for (int number : new int[] {0, 1, 19, 20}) {
            Given.ballots(number).answers(number, "save");
        }
        Given.ballots(2).after("save").after("removeBallot", 0).answers(1, "save");
    }

    private static void restoresTo(String state, Given given) {
        Given restored = given.after("restore");
        restored.compare("the state", restored.state(), state);
    }

    private static void restore() {
        Document.promise(50, "Restores the snapshot, which is kept.");
        Given saved = much().after("save").after("addWind");
        restoresTo(WINDS + BALLOTS, saved);
        restoresTo(WINDS + BALLOTS, saved.after("restore"));
        restoresTo(WINDS + BALLOTS, saved.after("restore").after("recount", 0, 9).after("removeBallot", 1));
        restoresTo(WINDS + BALLOTS, saved.after("restore").after("certify").after("spin").after("rank", 0, 3));
        restoresTo(WINDS + BALLOTS, saved.after("restore").after("withdraw", 1).after("undo").after("addWind"));
        Given restored = saved.after("restore");
        restored.changes(2, "tstws|02|3" + BALLOTS, "certify");
        restored.changes(2, WINDS + BALLOTS + "|9:3", "addBallot", 9, 3);
        Document.promise(50, "Returns the number of ballots.");
        for (int number : new int[] {0, 1, 19, 20}) {
            Given.ballots(number).after("save").answers(number, "restore");
            Given.ballots(number).after("save").after("addBallot", 1, 0).answers(number, "restore");
        }
        Given.ballots(2).after("save").after("removeBallot", 0).answers(2, "restore");
    }

    private static void nothingToUndoAfterRestore() {
        Document.promise(50, "Afterwards nothing can be undone.");
        Given restored = much().after("save").after("addWind").after("restore");
        restored.refuses(Given.STATE, "undo");
        undosAre(restored.after("spin"), "[0 left: " + WINDS + BALLOTS + "]");
        Given.nothing().after("save").after("restore").refuses(Given.STATE, "undo");
        spins(1).after("save").after("restore").refuses(Given.STATE, "undo");
        undosAre(spins(9).after("save").after("restore").times(9, "spin"), Look.undos(spins(18)));
    }

    private static void restoreRefused() {
        Document.promise(50, "Throws `IllegalStateException` if there is no snapshot");
        Given.nothing().refuses(Given.STATE, "restore");
        much().refuses(Given.STATE, "restore");
        much().after("restore").refuses(Given.STATE, "restore");
        much().after("undo").refuses(Given.STATE, "restore");
        Given.nothing().after("save").answers(0, "restore");
        Given.nothing().after("save").times(3, "restore").answers(0, "restore");
    }
}
