import java.util.Arrays;

/** What the document says of rounds and ties, and of the calls that count an election: promises 18 to 26. */
final class RoundsSentences {
    private RoundsSentences() {
    }

    static void check() {
        twoWaysToCount();
        eliminatedWindsStayOut();
        rounds();
        whatABallotCountsFor();
        moreThanHalf();
        onlyOneContinues();
        fewestVotes();
        ties();
        noTie();
        countsLeaveTheSpinner();
        winner();
        roundCount();
        votesIn();
        exhaustedIn();
        eliminatedIn();
        isTieIn();
        roundOfElimination();
        winnerShare();
    }

    /** Votes 5, 4, 3, 2; then 3 is out: 5, 4, 5; then 1 is out: 5 against 9. */
    private static Given threeRounds() {
        return Given.winds(4).ballot(5, "01").ballot(4, "12").ballot(3, "210").ballot(2, "32");
    }

    /** Ballots for one wind each, the first one's weight for wind 0 and so on. */
    private static Given votes(int... weights) {
        Given given = Given.winds(weights.length);
        for (int wind = 0; wind < weights.length; wind++) {
            given = weights[wind] == 0 ? given : given.ballot(weights[wind], "" + wind);
        }
        return given;
    }

    /** The count as a line, and that both ways to count have this winner. */
    private static void counts(String line, Given given) {
        given.writes(line, "writeCount");
        given.tells(line.charAt(line.length() - 2), "winner");
        given.tells(line.charAt(line.length() - 2), "winnerByTransfers");
        given.tells(line.length() / 2, "roundCount");
        given.tells(true, "isConsistent");
    }

    private static Given spun(Given given, int spins) {
        return given.times(spins, "spin");
    }

    private static void twoWaysToCount() {
        Document.quote("What it is", "An assembly that elects winds by instant-runoff voting: ranked ballots with "
                + "weights, rounds in which one wind is eliminated, ties that are broken by a spinner, recounts, and "
                + "seats.");
        Document.terms("The class counts an election in two ways, compares winds in pairs and by scores, executes "
                + "command texts, and supports undo and snapshots.");
        counts("3-1-2!", threeRounds());
        counts("3-2-1!", votes(5, 4, 2, 1).after("rank", 2, 1).after("rank", 3, 2).after("rank", 3, 1));
        counts("3*2*1*0*4!", Given.winds(5));
    }

    private static void eliminatedWindsStayOut() {
        Document.terms("An eliminated wind stays out in all later rounds.");
        Given given = Given.winds(4).ballot(5, "0").ballot(3, "132").ballot(4, "2").ballot(2, "3");
        counts("3-1-2!", given);
        given.tells(2, "votesIn", 0, 3);
        given.refuses(Given.MISSING, "votesIn", 1, 3);
        given.refuses(Given.MISSING, "votesIn", 2, 3);
        given.tells(3, "votesIn", 1, 1);
        given.refuses(Given.MISSING, "votesIn", 2, 1);
        given.tells(7, "votesIn", 2, 2);
        Given all = Given.winds(8);
        for (int round = 0; round < 8; round++) {
            for (int wind = 0; wind < 8; wind++) {
                int out = Integer.parseInt(new Call("roundOfElimination", wind).on(all.make())
                        .replace(Given.MISSING, "7"));
                all.answers(round <= out ? 0 : Given.MISSING, "votesIn", round, wind);
            }
        }
    }

    private static void rounds() {
        Document.terms("An election has rounds, numbered from 0.");
        threeRounds().tells(3, "eliminatedIn", 0);
        threeRounds().tells(1, "eliminatedIn", 1);
        threeRounds().tells(false, "isTieIn", 2);
        threeRounds().refuses(Given.MISSING, "isTieIn", 3);
        threeRounds().refuses(Given.MISSING, "isTieIn", -1);
        Document.terms("All winds that stand continue in round 0.");
        Given given = Given.winds(8).ballot(9, "2").after("withdraw", 0).after("certify");
        for (int wind = 0; wind < 8; wind++) {
            given.tells(wind == 0 || wind == 2 ? Given.MISSING : 0, "votesIn", 0, wind);
        }
        Given.winds(1).tells(0, "votesIn", 0, 0);
    }

    private static void whatABallotCountsFor() {
        Document.terms("In each round, a ballot counts with its weight for the wind of its lowest rank number that "
                + "continues; a ballot that ranks no wind that continues is exhausted in this round.");
        Given given = Given.winds(8).ballot(9, "64201").ballot(3, "7");
        for (char rank : "64201".toCharArray()) {
            int wind = rank - '0';
            given.tells(9, "votesIn", 0, wind);
            given.tells(0, "votesIn", 0, 5);
            given.tells(3, "votesIn", 0, 7);
            given.tells(0, "exhaustedIn", 0);
            given = given.after("withdraw", wind);
        }
        given.tells(0, "votesIn", 0, 5);
        given.tells(9, "exhaustedIn", 0);
        Document.terms("The votes of a wind in a round are the sum of the weights of the ballots that count for it.");
        Given sums = Given.winds(3).ballot(5, "01").ballot(7, "10").ballot(9, "012").ballot(40, "210");
        sums.tells(14, "votesIn", 0, 0);
        sums.tells(7, "votesIn", 0, 1);
        sums.tells(40, "votesIn", 0, 2);
        sums.after("recount", 0, 6).tells(15, "votesIn", 0, 0);
        sums.after("withdraw", 2).tells(14, "votesIn", 0, 0);
        sums.after("withdraw", 2).tells(47, "votesIn", 0, 1);
        Given.winds(2).tells(0, "votesIn", 0, 1);
        Given.winds(2).times(20, "addBallot", 99, 1).tells(1980, "votesIn", 0, 1);
    }

    private static void moreThanHalf() {
        Document.terms("If only one wind continues, or a wind has more than half of the sum of the votes of all winds "
                + "in this round, this wind is the winner and the round is the last one.");
        counts("2*0!", votes(4, 3, 3));
        counts("2-0!", votes(5, 3, 2));
        counts("0!", votes(6, 2, 2));
        counts("2-0!", votes(4, 3, 2));
        counts("0!", votes(5, 3, 1));
        counts("2-1*0!", votes(3, 3, 1));
        counts("0!", votes(4, 2, 1));
        counts("1*0!", votes(5, 5));
        counts("0!", votes(6, 5));
        counts("1!", votes(5, 6));
        counts("7!", votes(1, 1, 1, 1, 1, 1, 1, 8));
        counts("2-1*0!", votes(1, 1, 0));
        counts("1!", votes(0, 1, 0));
        Given exhausted = votes(4, 2, 1, 99).after("withdraw", 3);
        counts("0!", exhausted);
        counts("2-0!", exhausted.after("recount", 0, 3).after("addBallot", 1, 3));
        Given heavy = Given.winds(3).times(10, "addBallot", 99, 0).times(10, "addBallot", 99, 1);
        counts("1!", heavy.after("recount", 0, 98));
        counts("2-1*0!", heavy);
    }

    private static void onlyOneContinues() {
        counts("0!", Given.winds(1));
        counts("0!", votes(1));
        counts("1!", votes(9, 0).after("withdraw", 0));
        counts("1*0!", Given.winds(2));
        counts("1*0!", votes(0, 0, 9).after("withdraw", 2));
    }

    private static void fewestVotes() {
        Document.terms(
                "Otherwise a wind with the fewest votes in this round is eliminated and does not continue in later rounds.");
        counts("3-2-0!", votes(6, 5, 2, 1));
        counts("2-3-0!", votes(6, 5, 1, 2));
        counts("3-2-0!", votes(6, 5, 1, 0));
        counts("0-1-3!", votes(1, 2, 4, 5).after("rank", 1, 3));
        for (int wind = 0; wind < 8; wind++) {
            int[] weights = new int[8];
            Arrays.fill(weights, 2);
            weights[wind] = 1;
            votes(weights).tells(wind, "eliminatedIn", 0);
            votes(weights).tells(false, "isTieIn", 0);
            weights[wind] = 3;
            votes(weights).tells(wind <= 3 ? 4 : 3, "eliminatedIn", 0);
            votes(weights).tells(true, "isTieIn", 0);
        }
    }

    private static void ties() {
        Document.terms("If k winds share the fewest votes in a round, with k at least 2, there is a tie: the spinner is "
                + "spun, and the wind that is eliminated is the one at the index v mod k among them in the order of "
                + "their numbers, where v is the new value.");
        int[] order = {6, 1, 4, 3, 7, 0, 5, 2};
        for (int k = 2; k <= 8; k++) {
            int[] sharing = Arrays.copyOf(order, k);
            Arrays.sort(sharing);
            int[] weights = new int[8];
            Arrays.fill(weights, 2);
            for (int wind : sharing) {
                weights[wind] = 1;
            }
            for (int spins = 0; spins < 16; spins++) {
                Given given = spun(votes(weights), spins);
                int out = sharing[SeatsSentences.SPUN[spins + 1] % k];
                given.answers(out, "eliminatedIn", 0);
                given.answers(true, "isTieIn", 0);
                given.answers(0, "roundOfElimination", out);
            }
        }
        counts("3*2*1*0*4!", Given.winds(5));
        counts("2*1*3*4*0!", spun(Given.winds(5), 1));
        counts("3*2*1*7*6*0*5*4!", Given.winds(8));
        counts("0*4-2-3*1!", spun(votes(0, 4, 1, 4, 0), 1).after("removeBallot", 1).ballot(1, "2"));
    }

    private static void noTie() {
        Given oneHasFewest = Given.winds(3).ballot(5, "0").ballot(3, "12").ballot(2, "21");
        counts("2-1*0!", oneHasFewest);
        oneHasFewest.tells(false, "isTieIn", 0);
        oneHasFewest.tells(true, "isTieIn", 1);
        oneHasFewest.after("recount", 2, 3).after("recount", 0, 6).tells(true, "isTieIn", 0);
        oneHasFewest.after("certify").tells(3, "spinValue");
        threeRounds().after("certify").tells(0, "spinValue");
    }

    private static void countsLeaveTheSpinner() {
        Document.terms("The methods that count an election start with the present value of the spinner, but do not "
                + "change it, except certify.");
        Given[] given = {votes(3, 2, 2), spun(votes(3, 2, 2), 1)};
        int[] out = {2, 1};
        for (int spins = 0; spins < 2; spins++) {
            given[spins].tells(0, "winner");
            given[spins].tells(0, "winnerByTransfers");
            given[spins].tells(2, "roundCount");
            given[spins].tells(2, "votesIn", 1, 3 - out[spins]);
            given[spins].tells(2, "exhaustedIn", 1);
            given[spins].tells(out[spins], "eliminatedIn", 0);
            given[spins].tells(true, "isTieIn", 0);
            given[spins].tells(0, "roundOfElimination", out[spins]);
            given[spins].tells(0.6f, "winnerShare");
            given[spins].tells(true, "isConsistent");
            given[spins].writes(out[spins] + "*0!", "writeCount");
            given[spins].after("writeCount").after("winner").after("isConsistent")
                    .tells(SeatsSentences.SPUN[spins], "spinValue");
        }
        given[0].changes(0, "tss|0|3|3:0|2:1|2:2", "certify");
        given[1].changes(0, "tss|0|2|3:0|2:1|2:2", "certify");
    }

    private static void winner() {
        for (int number = 18; number <= 19; number++) {
            String name = number == 18 ? "winner" : "winnerByTransfers";
            Document.promise(number, number == 18
                    ? "Returns the winner of an election, by counting all ballots anew in each round."
                    : "Returns the same as winner, by keeping a pile of ballots for each wind and transferring the "
                            + "pile of each wind that is eliminated.", "Returns the number of the wind.");
            threeRounds().tells(2, name);
            threeRounds().after("withdraw", 2).tells(1, name);
            threeRounds().after("certify").tells(1, name);
            votes(5, 4, 2, 1).after("rank", 2, 1).after("rank", 3, 2).after("rank", 3, 1).tells(1, name);
            votes(0, 0, 0, 0, 0, 0, 0, 1).tells(7, name);
            Given.winds(8).tells(4, name);
            Document.promise(number, "Throws `NoSuchElementException` if no wind stands");
            needsStandingWind(name);
            Given.winds(1).tells(0, name);
            Given.winds(2).after("withdraw", 0).tells(1, name);
            Given.winds(2).after("certify").tells(1, name);
        }
    }

    /** No wind at all, none that has not withdrawn, none without a seat. */
    private static void needsStandingWind(String name) {
        Given.nothing().refuses(Given.MISSING, name);
        votes(1).after("withdraw", 0).refuses(Given.MISSING, name);
        votes(1, 2).after("certify").after("withdraw", 0).refuses(Given.MISSING, name);
        votes(1, 2).after("certify").after("certify").refuses(Given.MISSING, name);
    }

    private static void roundCount() {
        Document.promise(20, "Returns the number of rounds of an election.");
        threeRounds().tells(3, "roundCount");
        for (int number = 1; number <= 8; number++) {
            Given.winds(number).tells(number, "roundCount");
            Given.winds(number).ballot(1, "0").tells(1, "roundCount");
        }
        Document.promise(20, "Returns the number of rounds, 0 if no wind stands.");
        Given.nothing().tells(0, "roundCount");
        Given.winds(1).tells(1, "roundCount");
        votes(4).after("withdraw", 0).tells(0, "roundCount");
        votes(4, 3).after("certify").tells(1, "roundCount");
        votes(4, 3).after("certify").after("certify").tells(0, "roundCount");
    }

    private static void votesIn() {
        Document.promise(21, "Returns the votes of a wind in a round.", "Returns its votes.");
        int[][] due = {{5, 4, 3, 2}, {5, 4, 5, -1}, {5, -1, 9, -1}};
        for (int round = 0; round < 3; round++) {
            for (int wind = 0; wind < 4; wind++) {
                int votes = due[round][wind];
                threeRounds().tells(votes < 0 ? Given.MISSING : votes, "votesIn", round, wind);
            }
        }
        Document.promise(21, "Throws `IndexOutOfBoundsException` if there is no such wind");
        Given.needsWind("votesIn", 0, null);
        threeRounds().refusesOutside(4, Given.INDEX, "votesIn", 2, null);
        Document.promise(21,
                "Throws `NoSuchElementException` if there is no such round, or the wind does not continue in it");
        threeRounds().refusesOutside(3, Given.MISSING, "votesIn", null, 2);
        Given.winds(8).refusesOutside(8, Given.MISSING, "votesIn", null, 4);
        Given.winds(8).tells(0, "votesIn", 7, 4);
        Given.winds(1).tells(0, "votesIn", 0, 0);
        Given.winds(1).refuses(Given.MISSING, "votesIn", 1, 0);
        votes(1).after("withdraw", 0).refuses(Given.MISSING, "votesIn", 0, 0);
        threeRounds().after("withdraw", 3).refuses(Given.MISSING, "votesIn", 0, 3);
        threeRounds().after("certify").refuses(Given.MISSING, "votesIn", 0, 2);
        threeRounds().tells(2, "votesIn", 0, 3);
        threeRounds().refuses(Given.MISSING, "votesIn", 1, 3);
        threeRounds().after("winner").after("recount", 0, 99).refuses(Given.MISSING, "votesIn", 1, 0);
    }

    private static void exhaustedIn() {
        Document.promise(22, "Returns the sum of the weights of the ballots that are exhausted in a round.",
                "Returns the sum.");
        Given given = votes(5, 4, 2, 1, 8).after("withdraw", 4);
        given.writes("3-2-0!", "writeCount");
        given.tells(8, "exhaustedIn", 0);
        given.tells(9, "exhaustedIn", 1);
        given.tells(11, "exhaustedIn", 2);
        given.after("rank", 4, 0).tells(0, "exhaustedIn", 0);
        Given.winds(1).tells(0, "exhaustedIn", 0);
        Document.promise(22, "Throws `NoSuchElementException` if there is no such round");
        needsRound("exhaustedIn");
    }

    private static void needsRound(String name) {
        threeRounds().refusesOutside(3, Given.MISSING, name, (Object) null);
        Given.winds(1).refusesOutside(1, Given.MISSING, name, (Object) null);
        Given.winds(8).refusesOutside(8, Given.MISSING, name, (Object) null);
        Given.winds(8).allows(name, 6);
        Given.nothing().refusesOutside(0, Given.MISSING, name, (Object) null);
        votes(1).after("withdraw", 0).refuses(Given.MISSING, name, 0);
        votes(1, 2).after("certify").after("certify").refuses(Given.MISSING, name, 0);
        threeRounds().after("winner").after("recount", 0, 99).refuses(Given.MISSING, name, 1);
    }

    private static void eliminatedIn() {
        Document.promise(23, "Returns the wind that is eliminated in a round.", "Returns the number of the wind.");
        threeRounds().tells(3, "eliminatedIn", 0);
        threeRounds().tells(1, "eliminatedIn", 1);
        votes(0, 1, 1, 1).tells(0, "eliminatedIn", 0);
        Document.promise(23, "Throws `NoSuchElementException` if there is no such round, or it is the last one");
        needsRound("eliminatedIn");
        threeRounds().refuses(Given.MISSING, "eliminatedIn", 2);
        Given.winds(1).refuses(Given.MISSING, "eliminatedIn", 0);
        Given.winds(8).refuses(Given.MISSING, "eliminatedIn", 7);
        votes(2, 1).refuses(Given.MISSING, "eliminatedIn", 0);
    }

    private static void isTieIn() {
        Document.promise(24, "Returns whether there is a tie in a round.");
        Given given = Given.winds(3).ballot(5, "0").ballot(2, "12").ballot(3, "2");
        given.tells(false, "isTieIn", 0);
        given.tells(true, "isTieIn", 1);
        votes(3, 3, 3, 2).tells(false, "isTieIn", 0);
        votes(3, 3, 2, 2).tells(true, "isTieIn", 0);
        Document.promise(24, "Returns whether there is a tie, false in the last round.");
        given.tells(false, "isTieIn", 2);
        votes(5, 1, 1).tells(false, "isTieIn", 0);
        votes(5, 3, 3).tells(true, "isTieIn", 0);
        votes(5, 3, 3).tells(false, "isTieIn", 1);
        votes(5, 3, 3).after("writeCount").after("recount", 1, 2).tells(false, "isTieIn", 0);
        votes(5, 3, 3).after("writeCount").after("recount", 0, 7).tells(false, "isTieIn", 0);
        votes(5, 3, 3).after("writeCount").after("withdraw", 2).tells(false, "isTieIn", 0);
        Given.winds(1).tells(false, "isTieIn", 0);
        Given.winds(8).tells(true, "isTieIn", 6);
        Given.winds(8).tells(false, "isTieIn", 7);
        Document.promise(24, "Throws `NoSuchElementException` if there is no such round");
        needsRound("isTieIn");
    }

    private static void roundOfElimination() {
        Document.promise(25, "Returns the round in which a wind is eliminated.", "Returns the number of the round.");
        threeRounds().tells(0, "roundOfElimination", 3);
        threeRounds().tells(1, "roundOfElimination", 1);
        int[] due = {5, 2, 1, 0, -1, 6, 4, 3};
        for (int wind = 0; wind < 8; wind++) {
            Given.winds(8).tells(due[wind] < 0 ? Given.MISSING : due[wind], "roundOfElimination", wind);
        }
        Document.promise(25, "Throws `IndexOutOfBoundsException` if there is no such wind");
        Given.needsWind("roundOfElimination", (Object) null);
        Document.promise(25, "Throws `NoSuchElementException` if it does not stand, or is the winner, or continues in "
                + "the last round");
        threeRounds().after("withdraw", 3).refuses(Given.MISSING, "roundOfElimination", 3);
        threeRounds().after("withdraw", 1).refuses(Given.MISSING, "roundOfElimination", 1);
        threeRounds().after("certify").refuses(Given.MISSING, "roundOfElimination", 2);
        threeRounds().refuses(Given.MISSING, "roundOfElimination", 2);
        threeRounds().refuses(Given.MISSING, "roundOfElimination", 0);
        threeRounds().after("winner").after("recount", 0, 99).refuses(Given.MISSING, "roundOfElimination", 3);
        Given.winds(1).refuses(Given.MISSING, "roundOfElimination", 0);
        votes(1, 2).after("certify").after("certify").refuses(Given.MISSING, "roundOfElimination", 0);
    }

    private static void winnerShare() {
        Document.promise(26, "Returns the share of the votes that the winner has in the last round.",
                "Returns its votes divided by the sum of the votes of all winds in this round, both converted to float.");
        threeRounds().tells(9f / 14f, "winnerShare");
        votes(1, 2).tells(2f / 3f, "winnerShare");
        votes(2, 5).tells(5f / 7f, "winnerShare");
        votes(9, 0).tells(1.0f, "winnerShare");
        votes(4, 2, 99).after("withdraw", 2).tells(4f / 6f, "winnerShare");
        Given.winds(2).times(19, "addBallot", 99, 1).ballot(98, "0").tells(1881f / 1979f, "winnerShare");
        Document.promise(26, "Throws `NoSuchElementException` if no wind stands");
        needsStandingWind("winnerShare");
        Document.promise(26, "Throws `ArithmeticException` if this sum is 0");
        Given.winds(1).refuses(Given.ARITHMETIC, "winnerShare");
        Given.winds(8).refuses(Given.ARITHMETIC, "winnerShare");
        votes(99, 0).after("withdraw", 0).refuses(Given.ARITHMETIC, "winnerShare");
        votes(99, 0, 0).after("certify").refuses(Given.ARITHMETIC, "winnerShare");
        votes(0, 1).tells(1.0f, "winnerShare");
        votes(99, 0).after("withdraw", 0).ballot(1, "1").tells(1.0f, "winnerShare");
    }
}
