/** What the document says of the line, of statistics and checks: promises 39 to 43. */
final class LinesSentences {
    private LinesSentences() {
    }

    static void check() {
        writeBallot();
        writeBallotRefused();
        writeCount();
        lineAt();
        meanRanks();
        isConsistent();
    }

    private static Given ballots() {
        return Given.winds(8).ballot(7, "204").ballot(99, "76543").ballot(10, "1").ballot(9, "12");
    }

    private static void writeBallot() {
        Document.promise(39, "Writes a ballot into the line, which replaces the previous line: its weight, \":\", a "
                + "blank, and its winds in the order of their ranks with \">\" between them; for example \"7: 2>0>4\".");
        ballots().writes("7: 2>0>4", "writeBallot", 0);
        ballots().writes("99: 7>6>5>4>3", "writeBallot", 1);
        ballots().writes("10: 1", "writeBallot", 2);
        ballots().writes("9: 1>2", "writeBallot", 3);
        ballots().after("writeBallot", 1).writes("10: 1", "writeBallot", 2);
        ballots().after("writeBallot", 2).writes("99: 7>6>5>4>3", "writeBallot", 1);
        ballots().after("writeCount").writes("10: 1", "writeBallot", 2);
        for (int weight = 1; weight <= 99; weight++) {
            Given.winds(1).ballot(weight, "0").writes(weight + ": 0", "writeBallot", 0);
        }
        Document.promise(39, "Returns the length of the line.");
        ballots().answers(8, "writeBallot", 0);
        ballots().answers(13, "writeBallot", 1);
        ballots().answers(5, "writeBallot", 2);
    }

    private static void writeBallotRefused() {
        Document.promise(39, "Throws `IndexOutOfBoundsException` if there is no such ballot");
        Given.needsBallot("writeBallot", (Object) null);
        ballots().after("removeBallot", 0).refuses(Given.INDEX, "writeBallot", 3);
        Given refused = ballots().after("writeBallot", 0).after("writeBallot", 4);
        refused.compare("the line after a refused call", Look.line(refused.make()), "7: 2>0>4");
    }

    private static void writeCount() {
        Document.promise(40, "Writes the count of an election into the line, which replaces the previous line: the "
                + "winds in the order in which they are eliminated, each with \"-\" behind it, or with \"*\" if there is "
                + "a tie in this round, and then the winner with \"!\"; for example \"3-1*0!\".");
        Given example = Given.winds(4).ballot(4, "0").ballot(3, "1").ballot(3, "2").ballot(1, "3");
        example.after("withdraw", 2).writes("3-0!", "writeCount");
        example.writes("3-2*0!", "writeCount");
        example.after("recount", 0, 50).writes("0!", "writeCount");
        example.times(14, "spin").writes("3-2*0!", "writeCount");
        example.times(15, "spin").writes("3-1*0!", "writeCount");
        Given.winds(8).writes("3*2*1*7*6*0*5*4!", "writeCount");
        Given.winds(1).writes("0!", "writeCount");
        ballots().after("writeBallot", 1).writes("7!", "writeCount");
        Document.promise(40, "The line is empty if no wind stands.");
        Given.nothing().writes("", "writeCount");
        Given.winds(2).ballot(5, "0").after("writeCount").after("certify").after("withdraw", 1)
                .writes("", "writeCount");
        Given.winds(1).after("writeCount").after("certify").writes("", "writeCount");
        Given.winds(1).ballot(5, "0").after("withdraw", 0).after("writeBallot", 0).writes("", "writeCount");
        Document.promise(40, "Returns the length of the line.");
        for (int winds = 0; winds <= 8; winds++) {
            Given.winds(winds).answers(2 * winds, "writeCount");
        }
    }

    private static void lineAt() {
        Document.promise(41, "Returns a character of the line, which is empty at first.", "Returns the character.");
        Given.nothing().refusesOutside(0, Given.INDEX, "lineAt", (Object) null);
        ballots().refusesOutside(0, Given.INDEX, "lineAt", (Object) null);
        Document.promise(41, "`index`: index of the character, from 0");
        Given given = ballots().after("writeBallot", 1);
        for (int index = 0; index < 13; index++) {
            given.tells("99: 7>6>5>4>3".charAt(index), "lineAt", index);
        }
        Document.promise(41, "Throws `IndexOutOfBoundsException` if there is no such character");
        given.refusesOutside(13, Given.INDEX, "lineAt", (Object) null);
        for (int index : new int[] {59, 60, 61}) {
            given.refuses(Given.INDEX, "lineAt", index);
        }
        given.after("writeBallot", 2).tells('1', "lineAt", 4);
        given.after("writeBallot", 2).refusesOutside(5, Given.INDEX, "lineAt", (Object) null);
        given.after("writeCount").refusesOutside(2, Given.INDEX, "lineAt", (Object) null);
        Given.nothing().after("writeCount").refusesOutside(0, Given.INDEX, "lineAt", (Object) null);
    }

    private static void meanRanks() {
        Document.promise(42, "Returns the mean number of winds that a ballot ranks.",
                "Returns the sum of these numbers divided by the number of ballots, both converted to double.");
        Given given = Given.winds(5).ballot(50, "01234");
        given.tells(5.0, "meanRanks");
        given.ballot(1, "0").tells(3.0, "meanRanks");
        given.ballot(1, "0").ballot(1, "2").tells(7.0 / 3.0, "meanRanks");
        given.after("removeBallot", 0).ballot(1, "0").ballot(1, "2").ballot(1, "21").tells(4.0 / 3.0, "meanRanks");
        given.after("withdraw", 0).tells(5.0, "meanRanks");
        Given.ballots(20).tells(1.0, "meanRanks");
        Document.promise(42, "Throws `ArithmeticException` if there are no ballots");
        Given.nothing().refuses(Given.ARITHMETIC, "meanRanks");
        Given.winds(8).refuses(Given.ARITHMETIC, "meanRanks");
        Given.ballots(1).tells(1.0, "meanRanks");
        Given.ballots(1).after("removeBallot", 0).refuses(Given.ARITHMETIC, "meanRanks");
    }

    private static void isConsistent() {
        Document.promise(43, "Returns whether the counts are consistent: winner and winnerByTransfers, and "
                + "championOfPairs and championByDuels, agree or both find nothing, and in each round the votes of all "
                + "winds and the exhausted weight add up to the weight of all ballots.", "Returns whether this holds.");
        Given.nothing().tells(true, "isConsistent");
        Given.ballots(1).after("withdraw", 0).tells(true, "isConsistent");
        Given circle = Given.winds(4).ballot(1, "012").ballot(1, "120").ballot(1, "201").ballot(2, "3");
        circle.tells(true, "isConsistent");
        circle.after("withdraw", 3).tells(true, "isConsistent");
        circle.after("certify").tells(true, "isConsistent");
        for (int winds = 1; winds <= 8; winds++) {
            Given.winds(winds).tells(true, "isConsistent");
            Given.winds(winds).times(20, "addBallot", 99, winds - 1).tells(true, "isConsistent");
        }
    }
}
