/** What the document says of winds: promises 1 to 7, and the terms. */
final class WindsSentences {
    private WindsSentences() {
    }

    static void check() {
        newObject();
        atMostEightWinds();
        threeKindsOfWinds();
        neverStandsAgain();
        addWind();
        withdraw();
        counts();
        isStanding();
        hasSeat();
    }

    /** Wind 0 has withdrawn, 1 stands, 2 has a seat, 3 stands. */
    private static Given allKinds() {
        return Given.winds(4).ballot(1, "2").after("withdraw", 0).after("certify");
    }

    private static void newObject() {
        Document.promise(1,
                "Creates an assembly without winds and ballots, without seats, and with the spin value 0.");
        Given made = Given.nothing();
        made.tells(0, "windCount");
        made.tells(0, "standingCount");
        made.tells(0, "ballotCount");
        made.tells(0, "totalWeight");
        made.tells(0, "seatCount");
        made.tells(0, "spinValue");
        made.tells(0, "roundCount");
        made.compare("all", Look.all(made), "||0, undo: [], line , error at throws.NoSuchElementException, "
                + "failed throws.NoSuchElementException, buffer 1 throws.IllegalArgumentException 0 "
                + "throws.NoSuchElementException, snapshot throws.IllegalStateException");
    }

    private static void atMostEightWinds() {
        Document.terms("There are at most 8 winds, numbered from 0 in the order in which they were added.");
        String state = "";
        for (int number = 0; number < 8; number++) {
            state += "s";
            Given.winds(number).changes(number, state + "||0", "addWind");
        }
        Given.winds(8).refuses(Given.STATE, "addWind");
        Given.winds(9).tells(8, "windCount");
        Given.winds(7).after("withdraw", 0).changes(7, "wsssssss||0", "addWind");
        Given.winds(8).after("undo").changes(7, "ssssssss||0", "addWind");
    }

    private static void threeKindsOfWinds() {
        Document.terms("A wind stands, or has withdrawn, or has a seat.");
        boolean[][] standsAndHasSeat = {{false, false}, {true, false}, {false, true}, {true, false}};
        for (int wind = 0; wind < 4; wind++) {
            allKinds().tells(standsAndHasSeat[wind][0], "isStanding", wind);
            allKinds().tells(standsAndHasSeat[wind][1], "hasSeat", wind);
        }
    }

    private static void neverStandsAgain() {
        Document.terms("A wind that has withdrawn or has a seat never stands again.");
        Given given = allKinds();
        String others = "|2|0|1:2";
        given.compare("the state", given.state(), "wsts" + others);
        given.refuses(Given.STATE, "withdraw", 0);
        given.refuses(Given.STATE, "withdraw", 2);
        given.changes(4, "wstss" + others, "addWind");
        given.changes(1, "wstw" + others, "withdraw", 3);
        given.changes(1, "wsts" + others + "|9:2", "addBallot", 9, 2);
        given.changes(1, "wsts|2|0|1:20", "rank", 0, 0);
        given.changes(1, "wsts|2|0|99:2", "recount", 0, 99);
        given.changes(1, "wsts|2|0", "removeBallot", 0);
        given.changes(3, "wsts|2|3|1:2", "spin");
        given.ballot(99, "2").ballot(98, "0").ballot(2, "3").changes(3, "wstt|23|0|1:2|99:2|98:0|2:3", "certify");
    }

    private static void addWind() {
        Document.promise(2, "Adds a wind that stands.", "Returns the number of the wind.");
        allKinds().changes(4, "wstss|2|0|1:2", "addWind");
        Given.nothing().after("addWind").tells(true, "isStanding", 0);
        Given.winds(7).after("addWind").tells(true, "isStanding", 7);
        Document.promise(2, "Throws `IllegalStateException` if there are 8 winds");
        Given.winds(6).changes(6, "sssssss||0", "addWind");
        Given.winds(7).changes(7, "ssssssss||0", "addWind");
        Given.winds(8).refuses(Given.STATE, "addWind");
        Given.winds(8).after("addWind").refuses(Given.STATE, "addWind");
        Given.winds(8).after("withdraw", 7).refuses(Given.STATE, "addWind");
        Given.winds(8).after("certify").refuses(Given.STATE, "addWind");
        Given none = Given.winds(8).times(8, "certify");
        none.tells(0, "standingCount");
        none.refuses(Given.STATE, "addWind");
    }

    private static void withdraw() {
        Document.promise(3, "Lets a wind withdraw.");
        Given three = Given.winds(3);
        three.changes(2, "wss||0", "withdraw", 0);
        three.changes(2, "sws||0", "withdraw", 1);
        three.changes(2, "ssw||0", "withdraw", 2);
        three.ballot(5, "12").changes(2, "sws||0|5:12", "withdraw", 1);
        Document.promise(3, "Returns the number of winds that still stand.");
        Given.winds(1).changes(0, "w||0", "withdraw", 0);
        three.after("withdraw", 2).changes(1, "wsw||0", "withdraw", 0);
        three.after("withdraw", 2).after("withdraw", 0).changes(0, "www||0", "withdraw", 1);
        Given.winds(8).changes(7, "sssssssw||0", "withdraw", 7);
        Document.promise(3, "Throws `IndexOutOfBoundsException` if there is no such wind");
        Given.needsWind("withdraw", (Object) null);
        Document.promise(3, "Throws `IllegalStateException` if it does not stand");
        three.after("withdraw", 1).refuses(Given.STATE, "withdraw", 1);
        three.after("withdraw", 0).refuses(Given.STATE, "withdraw", 0);
        three.after("withdraw", 2).refuses(Given.STATE, "withdraw", 2);
        three.ballot(1, "0").after("certify").refuses(Given.STATE, "withdraw", 0);
        three.after("withdraw", 1).after("undo").changes(2, "sws||0", "withdraw", 1);
    }

    private static void counts() {
        Document.promise(4, "Returns the number of winds.");
        Document.promise(5, "Returns the number of winds that stand.", "Returns the number of winds.");
        for (int number = 0; number <= 8; number++) {
            Given.winds(number).tells(number, "windCount");
            Given.winds(number).tells(number, "standingCount");
        }
        allKinds().tells(4, "windCount");
        allKinds().tells(2, "standingCount");
        Given none = allKinds().after("withdraw", 1).after("certify");
        none.tells(4, "windCount");
        none.tells(0, "standingCount");
        none.after("addWind").tells(5, "windCount");
        none.after("addWind").tells(1, "standingCount");
    }

    private static void isStanding() {
        Document.promise(6, "Returns whether a wind stands.", "Returns whether it stands.");
        allKinds().tells(false, "isStanding", 0);
        allKinds().tells(true, "isStanding", 1);
        allKinds().tells(false, "isStanding", 2);
        allKinds().tells(true, "isStanding", 3);
        Given.winds(8).tells(true, "isStanding", 7);
        Document.promise(6, "Throws `IndexOutOfBoundsException` if there is no such wind");
        Given.needsWind("isStanding", (Object) null);
    }

    private static void hasSeat() {
        Document.promise(7, "Returns whether a wind has a seat.", "Returns whether it has a seat.");
        allKinds().tells(false, "hasSeat", 0);
        allKinds().tells(false, "hasSeat", 1);
        allKinds().tells(true, "hasSeat", 2);
        allKinds().tells(false, "hasSeat", 3);
        Given.winds(8).ballot(1, "0").after("certify").tells(true, "hasSeat", 0);
        Given.winds(8).ballot(1, "7").after("certify").tells(true, "hasSeat", 7);
        allKinds().after("undo").tells(false, "hasSeat", 2);
        Document.promise(7, "Throws `IndexOutOfBoundsException` if there is no such wind");
        Given.needsWind("hasSeat", (Object) null);
    }
}
