/** What the document says of the spinner and the seats: promises 34 to 38, and the terms. */
final class SeatsSentences {
    /** The values of the spinner after so many spins. */
    static final int[] SPUN = {0, 3, 2, 13, 4, 7, 6, 1, 8, 11, 10, 5, 12, 15, 14, 9, 0};

    private SeatsSentences() {
    }

    static void check() {
        spinnerFromZeroToFifteen();
        spin();
        certify();
        certifyWithTies();
        certifyRefused();
        seatCount();
        seatAt();
    }

    private static Given spins(int number) {
        return Given.nothing().times(number, "spin");
    }

    private static void spinnerFromZeroToFifteen() {
        Document.terms("The spinner has a value from 0 to 15.");
        spins(0).tells(0, "spinValue");
        spins(13).tells(15, "spinValue");
        for (int number = 0; number < 48; number++) {
            int value = spins(number).make().spinValue();
            spins(number).compare("a value from 0 to 15", "" + (value >= 0 && value <= 15), "true");
        }
        Document.terms("A spin replaces its value v by (5 * v + 3) mod 16.");
        for (int number = 0; number < 16; number++) {
            spins(number).changes(SPUN[number + 1], "||" + SPUN[number + 1], "spin");
        }
        spins(13).changes(14, "||14", "spin");
        spins(15).changes(0, "||0", "spin");
        spins(16).changes(3, "||3", "spin");
    }

    private static void spin() {
        Document.promise(34, "Spins the spinner.", "Returns its new value.");
        Given given = Given.winds(3).ballot(5, "12").after("certify").after("withdraw", 0);
        given.changes(3, "wts|1|3|5:12", "spin");
        given.after("spin").changes(2, "wts|1|2|5:12", "spin");
        Document.promise(35, "Returns the value of the spinner.", "Returns its value.");
        for (int number = 0; number <= 16; number++) {
            spins(number).tells(SPUN[number], "spinValue");
        }
        Given.winds(4).after("certify").tells(13, "spinValue");
    }

    private static void certify() {
        Document.promise(36, "Certifies the election: the winner gets the next seat, and the spinner keeps the value "
                + "that it had after the last tie of the count.");
        Given given = Given.winds(3).ballot(5, "20").ballot(3, "1");
        given.changes(2, "sst|2|0|5:20|3:1", "certify");
        given.after("certify").changes(0, "tst|20|0|5:20|3:1", "certify");
        given.after("certify").after("certify").changes(1, "ttt|201|0|5:20|3:1", "certify");
        given.after("withdraw", 0).changes(2, "wst|2|0|5:20|3:1", "certify");
        given.after("spin").changes(2, "sst|2|3|5:20|3:1", "certify");
    }

    private static void certifyWithTies() {
        Given.winds(1).changes(0, "t|0|0", "certify");
        Given.winds(2).changes(0, "ts|0|3", "certify");
        Given.winds(3).changes(2, "sst|2|2", "certify");
        Given four = Given.winds(4);
        four.changes(0, "tsss|0|13", "certify");
        four.after("certify").changes(1, "ttss|01|7", "certify");
        four.after("certify").after("certify").after("withdraw", 2).changes(3, "ttwt|013|7", "certify");
        Given tieAndThenNone = Given.winds(4).ballot(9, "0").ballot(5, "1").ballot(4, "2").ballot(1, "3");
        tieAndThenNone.after("addBallot", 1, 3).changes(0, "tsss|0|0|9:0|5:1|4:2|1:3|1:3", "certify");
        tieAndThenNone.after("addBallot", 3, 3).changes(0, "tsss|0|3|9:0|5:1|4:2|1:3|3:3", "certify");
        Document.promise(36, "Returns the number of the winner.");
        for (int wind = 0; wind < 8; wind++) {
            Given.winds(8).ballot(1, "" + wind).answers(wind, "certify");
        }
    }

    private static void certifyRefused() {
        Document.promise(36, "Throws `NoSuchElementException` if no wind stands");
        Given.nothing().refuses(Given.MISSING, "certify");
        Given.winds(1).after("withdraw", 0).refuses(Given.MISSING, "certify");
        Given.winds(1).after("certify").refuses(Given.MISSING, "certify");
        Given.winds(2).after("certify").after("withdraw", 1).refuses(Given.MISSING, "certify");
        Given.winds(8).times(8, "certify").refuses(Given.MISSING, "certify");
        Given.winds(8).times(9, "certify").tells(8, "seatCount");
        Given.winds(2).after("withdraw", 0).changes(1, "wt|1|0", "certify");
    }

    private static void seatCount() {
        Document.promise(37, "Returns the number of seats that are taken.", "Returns the number of seats.");
        for (int seats = 0; seats <= 8; seats++) {
            Given.winds(8).times(seats, "certify").tells(seats, "seatCount");
        }
        Given.winds(2).after("withdraw", 0).tells(0, "seatCount");
        Given.winds(2).after("certify").after("undo").tells(0, "seatCount");
    }

    private static void seatAt() {
        Document.promise(38, "Returns the wind in a seat.", "Returns the number of the wind.");
        Given given = Given.winds(3).ballot(5, "20").ballot(3, "1").after("certify");
        given.tells(2, "seatAt", 0);
        Document.promise(38, "`seat`: the seat, from 0, in the order in which the seats were taken");
        given = given.after("certify").after("certify");
        given.tells(2, "seatAt", 0);
        given.tells(0, "seatAt", 1);
        given.tells(1, "seatAt", 2);
        Given all = Given.winds(8);
        for (int wind = 7; wind >= 0; wind--) {
            all = all.after("addBallot", 99, wind).after("certify");
        }
        for (int seat = 0; seat < 8; seat++) {
            all.tells(7 - seat, "seatAt", seat);
        }
        Document.promise(38, "Throws `NoSuchElementException` if there is no wind in this seat");
        for (int seats = 0; seats <= 8; seats++) {
            Given.winds(8).times(seats, "certify").refusesOutside(seats, Given.MISSING, "seatAt", (Object) null);
        }
        Given.nothing().refuses(Given.MISSING, "seatAt", 0);
        Given.winds(2).after("withdraw", 0).refusesOutside(0, Given.MISSING, "seatAt", (Object) null);
        given.after("undo").refuses(Given.MISSING, "seatAt", 2);
    }
}
