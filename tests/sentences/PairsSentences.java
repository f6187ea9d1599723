/** What the document says of pairs and scores: promises 27 to 33, and the terms. */
final class PairsSentences {
    private PairsSentences() {
    }

    static void check() {
        whatABallotPrefers();
        whatBeats();
        whatAScoreIs();
        preference();
        beats();
        victories();
        champion();
        noChampion();
        scoreOf();
        windByScore();
    }

    private static void prefers(int weight, Given given, int wind, int other) {
        given.tells(weight, "preference", wind, other);
    }

    private static void whatABallotPrefers() {
        Document.terms("A ballot prefers a wind to another one if it ranks the one and not the other, or ranks both "
                + "and the one with a lower rank number.");
        Given given = Given.winds(8).ballot(6, "71032");
        prefers(6, given, 7, 4);
        prefers(6, given, 2, 4);
        prefers(0, given, 4, 7);
        prefers(0, given, 4, 2);
        prefers(6, given, 7, 1);
        prefers(0, given, 1, 7);
        prefers(6, given, 3, 2);
        prefers(0, given, 2, 3);
        prefers(6, given, 7, 2);
        prefers(0, given, 4, 5);
        prefers(0, given, 5, 4);
    }

    /** Both ballots rank winds 0 and 1, in the two orders. */
    private static Given against(int weight, int other) {
        return Given.winds(2).ballot(weight, "01").ballot(other, "10");
    }

    private static void whatBeats() {
        Document.terms("A wind beats another one if the sum of the weights of the ballots that prefer it is greater "
                + "than that of the ballots that prefer the other one.");
        against(5, 4).tells(true, "beats", 0, 1);
        against(5, 4).tells(false, "beats", 1, 0);
        against(5, 5).tells(false, "beats", 0, 1);
        against(5, 5).tells(false, "beats", 1, 0);
        against(5, 6).tells(false, "beats", 0, 1);
        against(5, 6).tells(true, "beats", 1, 0);
        against(5, 6).ballot(2, "0").tells(true, "beats", 0, 1);
        against(5, 6).ballot(1, "0").tells(false, "beats", 0, 1);
        Given.winds(2).tells(false, "beats", 0, 1);
        Given.winds(3).ballot(99, "2").tells(false, "beats", 0, 1);
    }

    private static void whatAScoreIs() {
        Document.terms("The score of a wind is the sum of w * (5 - r) over all ballots that rank it, where w is the "
                + "weight of the ballot and r is the rank of the wind on it.");
        Given given = Given.winds(6).ballot(10, "54321");
        int[] due = {0, 10, 20, 30, 40, 50};
        for (int wind = 0; wind < 6; wind++) {
            given.tells(due[wind], "scoreOf", wind);
        }
        given = given.ballot(3, "05");
        given.tells(15, "scoreOf", 0);
        given.tells(62, "scoreOf", 5);
        given.tells(40, "scoreOf", 4);
    }

    private static void preference() {
        Document.promise(27, "Returns the sum of the weights of the ballots that prefer a wind to another one.");
        Given given = Given.winds(4).ballot(5, "01").ballot(4, "12").ballot(30, "20").after("withdraw", 1);
        prefers(35, given, 0, 1);
        prefers(4, given, 1, 0);
        prefers(9, given, 1, 2);
        prefers(34, given, 2, 0);
        prefers(35, given, 0, 3);
        prefers(0, given, 3, 0);
        prefers(35, given.after("certify"), 0, 1);
        prefers(1980, Given.winds(8).times(20, "addBallot", 99, 7), 7, 0);
        Document.promise(27, "Returns the sum, 0 if both are the same.");
        for (int wind = 0; wind < 4; wind++) {
            prefers(0, given, wind, wind);
        }
        Document.promise(27, "Throws `IndexOutOfBoundsException` if either wind does not exist");
        needsBothWinds("preference");
    }

    private static void needsBothWinds(String name) {
        Given.needsWind(name, null, 0);
        Given.needsWind(name, 0, null);
        Given.needsWind(name, null, null);
        Given.winds(8).tells(name.equals("beats") ? false : 0, name, 7, 7);
        Given.winds(8).tells(name.equals("beats") ? false : 0, name, 0, 7);
    }

    private static void beats() {
        Document.promise(28, "Returns whether a wind beats another one.", "Returns whether it beats the other one.");
        Given given = Given.winds(3).ballot(6, "012").ballot(5, "102");
        boolean[][] due = {{false, true, true}, {false, false, true}, {false, false, false}};
        for (int wind = 0; wind < 3; wind++) {
            for (int other = 0; other < 3; other++) {
                given.tells(due[wind][other], "beats", wind, other);
            }
        }
        given.after("withdraw", 0).tells(true, "beats", 0, 1);
        given.after("recount", 0, 5).tells(false, "beats", 0, 1);
        Document.promise(28, "Throws `IndexOutOfBoundsException` if either wind does not exist");
        needsBothWinds("beats");
    }

    private static void victories() {
        Document.promise(29, "Returns the number of standing winds that a wind beats.", "Returns the number of winds.");
        Given given = Given.winds(4).ballot(5, "0123");
        for (int wind = 0; wind < 4; wind++) {
            given.tells(3 - wind, "victories", wind);
        }
        Given withdrawn = given.after("withdraw", 1);
        withdrawn.tells(2, "victories", 0);
        withdrawn.tells(2, "victories", 1);
        withdrawn.tells(1, "victories", 2);
        withdrawn.after("certify").tells(2, "victories", 0);
        withdrawn.after("certify").tells(2, "victories", 1);
        withdrawn.after("certify").after("withdraw", 2).after("withdraw", 3).tells(0, "victories", 0);
        Given.winds(8).tells(0, "victories", 7);
        Given.winds(8).ballot(1, "7").tells(7, "victories", 7);
        against(5, 5).tells(0, "victories", 0);
        Document.promise(29, "Throws `IndexOutOfBoundsException` if there is no such wind");
        Given.needsWind("victories", (Object) null);
    }

    private static void champions(Object want, Given given) {
        given.tells(want, "championOfPairs");
        given.tells(want, "championByDuels");
        given.tells(true, "isConsistent");
    }

    private static void champion() {
        Document.promise(30, "Returns the wind that stands and beats all other standing winds, by comparing all pairs.",
                "Returns the number of the wind.");
        Document.promise(31, "Returns the same as championOfPairs, by letting a champion meet one wind after the other "
                + "and then checking the last champion.", "Returns the number of the wind.");
        for (int wind = 0; wind < 8; wind++) {
            champions(wind, Given.winds(8).ballot(1, "" + wind));
        }
        champions(0, Given.winds(1));
        champions(1, Given.winds(2).after("withdraw", 0));
        Given given = Given.winds(3).ballot(2, "012").ballot(1, "120");
        champions(0, given);
        champions(1, given.after("withdraw", 0));
        champions(1, given.after("certify"));
        champions(2, given.after("certify").after("withdraw", 1));
        champions(0, against(6, 5));
        champions(1, against(5, 6));
        champions(2, circle().after("withdraw", 1));
        champions(2, circle().after("recount", 2, 3));
        champions(1, Given.winds(3).ballot(2, "10").ballot(2, "12").ballot(1, "0").ballot(1, "2"));
    }

    /** Wind 0 beats 1, 1 beats 2 and 2 beats 0. */
    private static Given circle() {
        return Given.winds(3).ballot(1, "012").ballot(1, "120").ballot(1, "201");
    }

    private static void noChampion() {
        Document.promise(30, "Throws `NoSuchElementException` if there is no such wind");
        Document.promise(31, "Throws `NoSuchElementException` if there is no such wind");
        champions(Given.MISSING, Given.nothing());
        champions(Given.MISSING, Given.winds(2));
        champions(Given.MISSING, Given.winds(8));
        champions(Given.MISSING, against(5, 5));
        champions(Given.MISSING, circle());
        champions(Given.MISSING, circle().after("withdraw", 0).after("withdraw", 1).after("withdraw", 2));
        champions(Given.MISSING, Given.winds(2).ballot(1, "0").after("certify").after("certify"));
        champions(Given.MISSING, Given.winds(3).ballot(9, "2").after("withdraw", 2));
        champions(Given.MISSING, Given.winds(3).ballot(1, "021").ballot(1, "201"));
        champions(Given.MISSING, Given.winds(3).ballot(1, "01").ballot(1, "21"));
        champions(Given.MISSING, Given.winds(3).ballot(1, "12").ballot(1, "02"));
    }

    private static void scoreOf() {
        Document.promise(32, "Returns the score of a wind.", "Returns its score.");
        Given given = Given.winds(6).ballot(10, "01234").ballot(3, "10").after("withdraw", 1);
        int[] due = {62, 55, 30, 20, 10, 0};
        for (int wind = 0; wind < 6; wind++) {
            given.tells(due[wind], "scoreOf", wind);
        }
        given.after("recount", 1, 4).tells(66, "scoreOf", 0);
        given.after("removeBallot", 0).tells(12, "scoreOf", 0);
        Given.winds(8).tells(0, "scoreOf", 7);
        Given.winds(8).ballot(1, "01237").tells(1, "scoreOf", 7);
        Given.winds(1).times(20, "addBallot", 99, 0).tells(9900, "scoreOf", 0);
        Document.promise(32, "Throws `IndexOutOfBoundsException` if there is no such wind");
        Given.needsWind("scoreOf", (Object) null);
    }

    private static void order(Given given, int... winds) {
        for (int place = 0; place < winds.length; place++) {
            given.tells(winds[place], "windByScore", place);
        }
        given.refusesOutside(winds.length, Given.MISSING, "windByScore", (Object) null);
    }

    private static void windByScore() {
        Document.promise(33, "Returns a wind in the order of scores, the greatest score first; winds with equal scores "
                + "are ordered by their numbers.", "Returns the number of the wind.");
        Given given = Given.winds(6).ballot(4, "35").ballot(4, "1").ballot(1, "4");
        order(given, 1, 3, 5, 4, 0, 2);
        order(given.after("withdraw", 3), 1, 3, 5, 4, 0, 2);
        order(given.after("certify").after("certify"), 1, 3, 5, 4, 0, 2);
        order(given.after("recount", 0, 5), 3, 1, 5, 4, 0, 2);
        order(Given.winds(8), 0, 1, 2, 3, 4, 5, 6, 7);
        order(Given.winds(8).ballot(1, "76543"), 7, 6, 5, 4, 3, 0, 1, 2);
        order(Given.winds(3).ballot(4, "10").ballot(1, "2"), 1, 0, 2);
        order(Given.winds(3).ballot(1, "012").ballot(1, "2"), 2, 0, 1);
        Document.promise(33, "`place`: the place, from 0");
        Given.winds(2).ballot(1, "1").tells(1, "windByScore", 0);
        Given.winds(2).ballot(1, "1").tells(0, "windByScore", 1);
        Document.promise(33, "Throws `NoSuchElementException` if there is no such place");
        order(Given.nothing());
        order(Given.winds(1), 0);
        order(Given.winds(1).after("withdraw", 0), 0);
        order(Given.winds(7), 0, 1, 2, 3, 4, 5, 6);
    }
}
