/** What the document says of ballots: promises 8 to 17, and the terms. */
final class BallotsSentences {
    private BallotsSentences() {
    }

    static void check() {
        atMostTwentyBallots();
        laterBallotsMoveDown();
        weightsAndRanks();
        rankZeroIsTheMostPreferred();
        addBallot();
        addBallotRefused();
        rank();
        rankRefused();
        removeBallot();
        recount();
        counts();
        windAt();
        rankOf();
        totalWeight();
    }

    /** The state of so many ballots of weight 7 for the only wind. */
    private static String sevens(int number) {
        return "s||0" + "|7:0".repeat(number);
    }

    private static Given threeBallots() {
        return Given.winds(4).ballot(1, "012").ballot(2, "1").ballot(3, "2013");
    }

    private static void atMostTwentyBallots() {
        Document.terms("There are at most 20 ballots, numbered from 0 in the order in which they were added; when a "
                + "ballot is removed, the numbers of the later ballots decrease by 1.");
        for (int number = 0; number < 20; number++) {
            Given.ballots(number).changes(number, sevens(number) + "|8:0", "addBallot", 8, 0);
        }
        Given.ballots(20).refuses(Given.STATE, "addBallot", 8, 0);
        Given.ballots(21).tells(20, "ballotCount");
    }

    private static void laterBallotsMoveDown() {
        Given twenty = Given.winds(1);
        for (int weight = 1; weight <= 20; weight++) {
            twenty = twenty.ballot(weight, "0");
        }
        for (int removed = 0; removed < 20; removed++) {
            String rest = "s||0";
            for (int number = 0; number < 20; number++) {
                rest += number == removed ? "" : "|" + (number + 1) + ":0";
            }
            twenty.changes(removed + 1, rest, "removeBallot", removed);
            twenty.after("removeBallot", removed).changes(19, rest + "|50:0", "addBallot", 50, 0);
        }
        threeBallots().changes(1, "ssss||0|2:1|3:2013", "removeBallot", 0);
        threeBallots().changes(2, "ssss||0|1:012|3:2013", "removeBallot", 1);
        threeBallots().changes(3, "ssss||0|1:012|2:1", "removeBallot", 2);
        threeBallots().after("removeBallot", 0).changes(1, "ssss||0|2:12|3:2013", "rank", 0, 2);
        threeBallots().after("removeBallot", 0).ballot(9, "3").changes(1, "ssss||0|2:1|3:2013|9:31", "rank", 2, 1);
    }

    private static void weightsAndRanks() {
        Document.terms("A ballot has a weight from 1 to 99 and ranks 1 to 5 different winds, whether they stand or not.");
        Given given = Given.winds(6).after("withdraw", 0).ballot(99, "1").after("certify");
        String before = "wtssss|1|0|99:1";
        given.changes(1, before + "|1:0", "addBallot", 1, 0);
        given.changes(1, before + "|99:1", "addBallot", 99, 1);
        given.refuses(Given.ARGUMENT, "addBallot", 0, 0);
        given.refuses(Given.ARGUMENT, "addBallot", 100, 0);
        given.ballot(5, "2").changes(1, before + "|5:20", "rank", 1, 0);
        given.ballot(5, "20").changes(2, before + "|5:201", "rank", 1, 1);
        given.ballot(5, "2013").changes(4, before + "|5:20135", "rank", 1, 5);
        given.ballot(5, "20135").refuses(Given.STATE, "rank", 1, 4);
        given.ballot(5, "20").refuses(Given.ARGUMENT, "rank", 1, 0);
        given.ballot(5, "20135").tells(5, "rankCount", 1);
        given.ballot(5, "2").tells(1, "rankCount", 1);
    }

    private static void rankZeroIsTheMostPreferred() {
        Document.terms("Rank 0 is the most preferred one.");
        Given given = Given.winds(3).ballot(4, "201");
        given.tells(2, "winner");
        given.tells(4, "votesIn", 0, 2);
        given.tells(true, "beats", 2, 0);
        given.tells(true, "beats", 0, 1);
        given.after("withdraw", 2).tells(4, "votesIn", 0, 0);
    }

    private static void addBallot() {
        Document.promise(8, "Adds a ballot that ranks one wind.", "Returns the number of the ballot.");
        Given.winds(8).changes(0, "ssssssss||0|12:7", "addBallot", 12, 7);
        threeBallots().changes(3, "ssss||0|1:012|2:1|3:2013|4:3", "addBallot", 4, 3);
        Document.promise(8, "`weight`: its weight, 1 to 99");
        for (int weight = 1; weight <= 99; weight++) {
            Given.winds(1).changes(0, "s||0|" + weight + ":0", "addBallot", weight, 0);
        }
        Document.promise(8, "`first`: the wind at rank 0");
        for (int wind = 0; wind < 8; wind++) {
            Given.winds(8).after("addBallot", 3, wind).tells(wind, "windAt", 0, 0);
            Given.winds(8).after("addBallot", 3, wind).tells(0, "rankOf", 0, wind);
        }
    }

    private static void addBallotRefused() {
        Document.promise(8, "Throws `IndexOutOfBoundsException` if there is no such wind");
        Given.needsWind("addBallot", 5, null);
        Document.promise(8, "Throws `IllegalArgumentException` if the weight is out of range");
        Given.winds(2).changes(0, "ss||0|1:1", "addBallot", 1, 1);
        Given.winds(2).changes(0, "ss||0|2:1", "addBallot", 2, 1);
        Given.winds(2).changes(0, "ss||0|98:1", "addBallot", 98, 1);
        Given.winds(2).changes(0, "ss||0|99:1", "addBallot", 99, 1);
        for (int weight : new int[] {0, -1, -99, 100, 101, 257, Integer.MIN_VALUE, Integer.MAX_VALUE}) {
            Given.winds(2).refuses(Given.ARGUMENT, "addBallot", weight, 1);
        }
        Document.promise(8, "Throws `IllegalStateException` if there are 20 ballots");
        Given.ballots(18).changes(18, sevens(19), "addBallot", 7, 0);
        Given.ballots(19).changes(19, sevens(20), "addBallot", 7, 0);
        Given.ballots(20).refuses(Given.STATE, "addBallot", 7, 0);
        Given.ballots(20).after("addBallot", 7, 0).refuses(Given.STATE, "addBallot", 7, 0);
        Given.ballots(20).after("removeBallot", 0).changes(19, sevens(20), "addBallot", 7, 0);
        Given.ballots(20).after("undo").changes(19, sevens(20), "addBallot", 7, 0);
    }

    private static void rank() {
        Document.promise(9, "Adds a wind to the end of the ranking of a ballot.", "Returns its rank.");
        Given given = Given.winds(8).ballot(4, "6").ballot(5, "0");
        given.changes(1, "ssssssss||0|4:63|5:0", "rank", 0, 3);
        given.changes(1, "ssssssss||0|4:6|5:07", "rank", 1, 7);
        given.after("rank", 0, 3).changes(2, "ssssssss||0|4:630|5:0", "rank", 0, 0);
        given.after("rank", 0, 3).after("rank", 0, 0).changes(3, "ssssssss||0|4:6301|5:0", "rank", 0, 1);
        Given.ballots(20).after("addWind").changes(1, "ss||0" + "|7:0".repeat(19) + "|7:01", "rank", 19, 1);
    }

    private static void rankRefused() {
        Document.promise(9, "Throws `IndexOutOfBoundsException` if there is no such ballot or wind");
        Given.needsBallot("rank", null, 0);
        for (int number : new int[] {1, 7, 8}) {
            Given.winds(number).ballot(5, "0").refusesOutside(number, Given.INDEX, "rank", 0, null);
        }
        Document.promise(9, "Throws `IllegalArgumentException` if the ballot ranks the wind already");
        Given given = Given.winds(6).ballot(5, "10234").ballot(6, "2");
        for (int wind = 0; wind < 5; wind++) {
            given.refuses(Given.ARGUMENT, "rank", 0, wind);
        }
        given.refuses(Given.ARGUMENT, "rank", 1, 2);
        given.changes(1, "ssssss||0|5:10234|6:21", "rank", 1, 1);
        Document.promise(9, "Throws `IllegalStateException` if the ballot ranks 5 winds");
        given.refuses(Given.STATE, "rank", 0, 5);
        Given.winds(6).ballot(5, "102").changes(3, "ssssss||0|5:1025", "rank", 0, 5);
        Given.winds(6).ballot(5, "1023").changes(4, "ssssss||0|5:10235", "rank", 0, 5);
        given.after("undo").after("undo").changes(4, "ssssss||0|5:10235", "rank", 0, 5);
    }

    private static void removeBallot() {
        Document.promise(10, "Removes a ballot.", "Returns its weight.");
        Given.ballots(1).changes(7, "s||0", "removeBallot", 0);
        Given.ballots(20).changes(7, sevens(19), "removeBallot", 19);
        threeBallots().changes(2, "ssss||0|1:012|3:2013", "removeBallot", 1);
        threeBallots().after("recount", 1, 99).changes(99, "ssss||0|1:012|3:2013", "removeBallot", 1);
        threeBallots().after("removeBallot", 2).ballot(9, "3").tells(1, "rankCount", 2);
        Document.promise(10, "Throws `IndexOutOfBoundsException` if there is no such ballot");
        Given.needsBallot("removeBallot", (Object) null);
        Given.ballots(1).after("removeBallot", 0).refuses(Given.INDEX, "removeBallot", 0);
        threeBallots().after("removeBallot", 0).refuses(Given.INDEX, "removeBallot", 2);
        threeBallots().after("removeBallot", 0).changes(3, "ssss||0|2:1", "removeBallot", 1);
    }

    private static void recount() {
        Document.promise(11, "Corrects the weight of a ballot after a recount.", "Returns the previous weight.");
        threeBallots().changes(1, "ssss||0|50:012|2:1|3:2013", "recount", 0, 50);
        threeBallots().changes(3, "ssss||0|1:012|2:1|50:2013", "recount", 2, 50);
        threeBallots().after("recount", 0, 50).changes(50, "ssss||0|50:012|2:1|3:2013", "recount", 0, 50);
        Document.promise(11, "`weight`: the new weight, 1 to 99");
        for (int weight = 1; weight <= 99; weight++) {
            Given.ballots(1).changes(7, "s||0|" + weight + ":0", "recount", 0, weight);
        }
        Document.promise(11, "Throws `IndexOutOfBoundsException` if there is no such ballot");
        Given.needsBallot("recount", null, 5);
        Document.promise(11, "Throws `IllegalArgumentException` if the weight is out of range");
        Given.ballots(1).changes(7, "s||0|1:0", "recount", 0, 1);
        Given.ballots(1).changes(7, "s||0|99:0", "recount", 0, 99);
        for (int weight : new int[] {0, -1, -99, 100, 101, 257, Integer.MIN_VALUE, Integer.MAX_VALUE}) {
            Given.ballots(1).refuses(Given.ARGUMENT, "recount", 0, weight);
        }
    }

    private static void counts() {
        Document.promise(12, "Returns the number of ballots.");
        for (int number = 0; number <= 20; number++) {
            Given.ballots(number).tells(number, "ballotCount");
        }
        threeBallots().after("removeBallot", 1).tells(2, "ballotCount");
        Document.promise(13, "Returns the weight of a ballot.", "Returns its weight.");
        threeBallots().tells(1, "weightOf", 0);
        threeBallots().tells(3, "weightOf", 2);
        threeBallots().after("recount", 2, 99).tells(99, "weightOf", 2);
        threeBallots().after("removeBallot", 0).tells(3, "weightOf", 1);
        Given.ballots(20).after("recount", 19, 1).tells(1, "weightOf", 19);
        Document.promise(13, "Throws `IndexOutOfBoundsException` if there is no such ballot");
        Given.needsBallot("weightOf", (Object) null);
        threeBallots().after("removeBallot", 0).refuses(Given.INDEX, "weightOf", 2);
        Document.promise(14, "Returns the number of winds that a ballot ranks.", "Returns the number of winds.");
        threeBallots().tells(3, "rankCount", 0);
        threeBallots().tells(1, "rankCount", 1);
        threeBallots().tells(4, "rankCount", 2);
        Given.winds(5).ballot(1, "01234").tells(5, "rankCount", 0);
        Document.promise(14, "Throws `IndexOutOfBoundsException` if there is no such ballot");
        Given.needsBallot("rankCount", (Object) null);
        threeBallots().after("removeBallot", 0).refuses(Given.INDEX, "rankCount", 2);
    }

    private static void windAt() {
        Document.promise(15, "Returns the wind at a rank of a ballot.", "Returns the number of the wind.");
        threeBallots().tells(1, "windAt", 0, 1);
        threeBallots().tells(1, "windAt", 1, 0);
        threeBallots().tells(0, "windAt", 2, 1);
        Document.promise(15, "`rank`: the rank, from 0");
        Given.winds(8).ballot(1, "75312").tells(7, "windAt", 0, 0);
        Given.winds(8).ballot(1, "75312").tells(2, "windAt", 0, 4);
        Document.promise(15, "Throws `IndexOutOfBoundsException` if there is no such ballot");
        Given.needsBallot("windAt", null, 0);
        threeBallots().after("removeBallot", 0).refuses(Given.INDEX, "windAt", 2, 0);
        Document.promise(15, "Throws `NoSuchElementException` if the ballot has no such rank");
        for (int size = 1; size <= 5; size++) {
            Given given = Given.winds(8).ballot(1, "75312").ballot(1, "75312".substring(0, size)).ballot(1, "75312");
            given.allows("windAt", 1, size - 1);
            given.refusesOutside(size, Given.MISSING, "windAt", 1, null);
        }
        threeBallots().after("removeBallot", 2).ballot(9, "3").refuses(Given.MISSING, "windAt", 2, 1);
    }

    private static void rankOf() {
        Document.promise(16, "Returns the rank of a wind on a ballot.");
        threeBallots().tells(1, "rankOf", 0, 1);
        threeBallots().tells(0, "rankOf", 1, 1);
        threeBallots().tells(3, "rankOf", 2, 3);
        Document.promise(16, "Returns its rank, from 0.");
        for (int rank = 0; rank < 5; rank++) {
            Given.winds(8).ballot(1, "75312").tells(rank, "rankOf", 0, "75312".charAt(rank) - '0');
        }
        Document.promise(16, "Throws `IndexOutOfBoundsException` if there is no such ballot or wind");
        Given.needsBallot("rankOf", null, 0);
        for (int number : new int[] {1, 7, 8}) {
            Given.winds(number).ballot(5, "0").refusesOutside(number, Given.INDEX, "rankOf", 0, null);
        }
        Document.promise(16, "Throws `NoSuchElementException` if the ballot does not rank the wind");
        threeBallots().refuses(Given.MISSING, "rankOf", 0, 3);
        threeBallots().refuses(Given.MISSING, "rankOf", 1, 0);
        Given.winds(8).ballot(1, "75312").refuses(Given.MISSING, "rankOf", 0, 0);
        threeBallots().after("removeBallot", 2).ballot(9, "3").refuses(Given.MISSING, "rankOf", 2, 0);
    }

    private static void totalWeight() {
        Document.promise(17, "Returns the sum of the weights of all ballots.", "Returns the sum.");
        Given.winds(1).tells(0, "totalWeight");
        Given.ballots(1).tells(7, "totalWeight");
        Given.ballots(20).tells(140, "totalWeight");
        Given.winds(1).times(20, "addBallot", 99, 0).tells(1980, "totalWeight");
        threeBallots().tells(6, "totalWeight");
        threeBallots().after("withdraw", 1).tells(6, "totalWeight");
        threeBallots().after("recount", 0, 99).tells(104, "totalWeight");
        threeBallots().after("removeBallot", 1).tells(4, "totalWeight");
    }
}
