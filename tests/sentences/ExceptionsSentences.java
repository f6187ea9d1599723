/** What the document says of exceptions in general. */
final class ExceptionsSentences {
    private ExceptionsSentences() {
    }

    static void check() {
        refusedCallsChangeNothing();
        executeEmptiesTheBuffer();
        theFirstOfSeveral();
        theFirstOfSeveralOnBallots();
        theFirstOfSeveralInCounts();
    }

    /** Winds 0 and 2 stand, 1 has a seat, 3 has withdrawn; ballot 0 is full, and there are a line, a text and more. */
    private static Given much() {
        return Given.winds(6).ballot(50, "10234").ballot(5, "0").ballot(6, "2").after("withdraw", 3).after("certify")
                .after("withdraw", 4).after("withdraw", 5).after("spin").busy();
    }

    private static void refusedCallsChangeNothing() {
        Document.terms("A method that throws an exception leaves the state unchanged, except that execute empties the "
                + "text buffer.");
        Given given = much();
        given.compare("the state", given.state(), "stswww|1|3|50:10234|5:0|6:2");
        given.after("addWind").after("addWind").refuses(Given.STATE, "addWind");
        given.refuses(Given.INDEX, "withdraw", 6);
        given.refuses(Given.STATE, "withdraw", 1);
        given.refuses(Given.STATE, "withdraw", 3);
        given.refuses(Given.INDEX, "isStanding", 6);
        given.refuses(Given.INDEX, "hasSeat", 6);
        given.refuses(Given.INDEX, "addBallot", 1, 6);
        given.refuses(Given.ARGUMENT, "addBallot", 0, 0);
        given.times(17, "addBallot", 1, 0).refuses(Given.STATE, "addBallot", 1, 0);
        given.refuses(Given.INDEX, "rank", 3, 0);
        given.refuses(Given.INDEX, "rank", 1, 6);
        given.refuses(Given.ARGUMENT, "rank", 1, 0);
        given.refuses(Given.STATE, "rank", 0, 5);
        given.refuses(Given.INDEX, "removeBallot", 3);
        given.refuses(Given.INDEX, "recount", 3, 1);
        given.refuses(Given.ARGUMENT, "recount", 0, 100);
        given.after("withdraw", 0).after("withdraw", 2).refuses(Given.MISSING, "certify");
        given.refuses(Given.INDEX, "writeBallot", 3);
        given.refuses(Given.INDEX, "lineAt", 13);
        given.refuses(Given.ARGUMENT, "type", (char) 127);
        given.times(53, "type", ' ').refuses(Given.STATE, "type", ' ');
        given.times(8, "undo").refuses(Given.STATE, "undo");
        Given.winds(3).after("writeCount").executed("x").executed("remove 0").typed("wi")
                .refuses(Given.STATE, "restore");
    }

    private static void executeEmptiesTheBuffer() {
        Given given = Given.winds(2).ballot(5, "01").after("writeCount").after("save").after("spin");
        given.isMalformedAt(5, "wind;x");
        given.isMalformedAt(0, "");
        given.failsIn(1, "wind;remove 1");
        given.failsIn(4, "certify;recount 0 9;spin;wind;withdraw 0");
        given.executed("wind;x").isMalformedAt(1, "w");
        given.executed("remove 1").failsIn(2, "wind;wind;remove 1");
    }

    private static void theFirstOfSeveral() {
        Document.terms("If several exceptions apply, the one that is documented first is thrown.");
        much().refuses(Given.INDEX, "withdraw", 6);
        Given.nothing().refuses(Given.INDEX, "withdraw", 0);
        Given.nothing().times(60, "type", 'x').refuses(Given.ARGUMENT, "type", (char) 31);
        Given.nothing().times(60, "type", 'x').refuses(Given.ARGUMENT, "type", (char) 127);
        Given.nothing().times(60, "type", 'x').refuses(Given.STATE, "type", (char) 32);
        Given.nothing().times(60, "type", 'x').refuses(Given.STATE, "type", (char) 126);
        Given.nothing().isMalformedAt(9, "remove 0;");
        Given.nothing().isMalformedAt(9, "remove 0;x");
        Given.nothing().isMalformedAt(11, "ballot 0 9;");
    }

    private static void theFirstOfSeveralOnBallots() {
        Given full = Given.ballots(20);
        full.refuses(Given.INDEX, "addBallot", 0, 1);
        full.refuses(Given.INDEX, "addBallot", 100, -1);
        full.refuses(Given.INDEX, "addBallot", 1, 1);
        full.refuses(Given.ARGUMENT, "addBallot", 0, 0);
        full.refuses(Given.ARGUMENT, "addBallot", 100, 0);
        full.refuses(Given.STATE, "addBallot", 1, 0);
        Given.winds(1).refuses(Given.INDEX, "addBallot", 0, 1);
        Given five = Given.winds(6).ballot(9, "01234");
        five.refuses(Given.INDEX, "rank", 0, 6);
        five.refuses(Given.INDEX, "rank", 0, -1);
        five.refuses(Given.INDEX, "rank", 1, 0);
        five.refuses(Given.INDEX, "rank", -1, 6);
        five.refuses(Given.ARGUMENT, "rank", 0, 0);
        five.refuses(Given.ARGUMENT, "rank", 0, 4);
        five.refuses(Given.STATE, "rank", 0, 5);
        five.refuses(Given.INDEX, "recount", 1, 0);
        five.refuses(Given.INDEX, "recount", -1, 100);
        five.refuses(Given.INDEX, "windAt", 1, 5);
        five.refuses(Given.INDEX, "windAt", -1, -1);
        five.refuses(Given.INDEX, "rankOf", 1, 5);
        five.refuses(Given.INDEX, "rankOf", 1, 6);
        five.refuses(Given.INDEX, "rankOf", 0, 6);
    }

    private static void theFirstOfSeveralInCounts() {
        Given.winds(2).refuses(Given.INDEX, "votesIn", 2, 2);
        Given.winds(2).refuses(Given.INDEX, "votesIn", -1, -1);
        Given.winds(2).refuses(Given.MISSING, "votesIn", 2, 1);
        Given.nothing().refuses(Given.INDEX, "votesIn", 0, 0);
        Given.nothing().refuses(Given.INDEX, "roundOfElimination", 0);
        Given.winds(1).after("withdraw", 0).refuses(Given.INDEX, "roundOfElimination", 1);
        Given.nothing().refuses(Given.MISSING, "winnerShare");
        Given.winds(1).after("withdraw", 0).refuses(Given.MISSING, "winnerShare");
        Given.winds(1).refuses(Given.ARITHMETIC, "winnerShare");
    }
}
