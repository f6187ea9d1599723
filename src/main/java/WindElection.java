import java.util.NoSuchElementException;

/** An assembly that elects winds by instant-runoff voting; ../shared/DOC.md says what each call promises. */
public final class WindElection {
    private static final int MAX_WINDS = 8;
    private static final int MAX_BALLOTS = 20;
    private static final int MAX_RANKS = 5;
    private static final int MAX_WEIGHT = 99;
    private static final int MAX_UNDOS = 8;
    private static final int MAX_TEXT = 60;
    private static final int SPINNER_VALUES = 16;

    /** No wind, no rank, no round, no place: whatever a search did not find. */
    private static final int NONE = -1;
    /** Stands in place of the votes of a wind that does not continue. */
    private static final int OUT = -1;

    private static final Word[] WORDS = Word.values();

    private final Assembly assembly = new Assembly();
    private final Assembly before = new Assembly();
    private final Assembly snapshot = new Assembly();
    private boolean hasSnapshot = false;
    private final History history = new History();
    private final Count count = new Count();
    private final Piles piles = new Piles();
    private final int[] scores = new int[MAX_WINDS];
    private final Text line = new Text();
    private final Reader reader = new Reader();
    private int lastErrorPosition = NONE;
    private int lastFailedCommand = NONE;

    public WindElection() {
    }

    // Winds

    public int addWind() throws IllegalStateException {
        before.copyFrom(assembly);
        settle(assembly.putWind());
        return assembly.winds - 1;
    }

    public int withdraw(int wind) throws IndexOutOfBoundsException, IllegalStateException {
        before.copyFrom(assembly);
        settle(assembly.letGo(wind));
        return assembly.standingWinds();
    }

    public int windCount() {
        return assembly.winds;
    }

    public int standingCount() {
        return assembly.standingWinds();
    }

    public boolean isStanding(int wind) throws IndexOutOfBoundsException {
        checkWind(wind);
        return assembly.stands[wind];
    }

    public boolean hasSeat(int wind) throws IndexOutOfBoundsException {
        checkWind(wind);
        return assembly.seatOf[wind] != NONE;
    }

    // Ballots

    public int addBallot(int weight, int first)
            throws IndexOutOfBoundsException, IllegalArgumentException, IllegalStateException {
        before.copyFrom(assembly);
        settle(assembly.putBallot(weight, first));
        return assembly.ballotsIn - 1;
    }

    public int rank(int ballot, int wind)
            throws IndexOutOfBoundsException, IllegalArgumentException, IllegalStateException {
        before.copyFrom(assembly);
        settle(assembly.extendBallot(ballot, wind));
        return ballotNumbered(ballot).size - 1;
    }

    public int removeBallot(int ballot) throws IndexOutOfBoundsException {
        int weight = ballotNumbered(ballot).weight;
        before.copyFrom(assembly);
        settle(assembly.dropBallot(ballot));
        return weight;
    }

    public int recount(int ballot, int weight) throws IndexOutOfBoundsException, IllegalArgumentException {
        int previous = ballotNumbered(ballot).weight;
        before.copyFrom(assembly);
        settle(assembly.reweigh(ballot, weight));
        return previous;
    }

    public int ballotCount() {
        return assembly.ballotsIn;
    }

    public int weightOf(int ballot) throws IndexOutOfBoundsException {
        return ballotNumbered(ballot).weight;
    }

    public int rankCount(int ballot) throws IndexOutOfBoundsException {
        return ballotNumbered(ballot).size;
    }

    public int windAt(int ballot, int rank) throws IndexOutOfBoundsException, NoSuchElementException {
        Ballot asked = ballotNumbered(ballot);
        if (rank < 0 || rank >= asked.size) {
            throw new NoSuchElementException("the ballot has no such rank");
        }
        return asked.winds[rank];
    }

    public int rankOf(int ballot, int wind) throws IndexOutOfBoundsException, NoSuchElementException {
        Ballot asked = ballotNumbered(ballot);
        checkWind(wind);
        return found(asked.placeOf(wind));
    }

    public int totalWeight() {
        return assembly.weightOfAll();
    }

    // Counting

    public int winner() throws NoSuchElementException {
        count.take(assembly);
        return found(count.winner);
    }

    public int winnerByTransfers() throws NoSuchElementException {
        return found(piles.elect(assembly));
    }

    public int roundCount() {
        count.take(assembly);
        return count.size;
    }

    public int votesIn(int round, int wind) throws IndexOutOfBoundsException, NoSuchElementException {
        checkWind(wind);
        Round asked = roundNumbered(round);
        if (!asked.continues(wind)) {
            throw new NoSuchElementException("the wind does not continue in this round");
        }
        return asked.votes[wind];
    }

    public int exhaustedIn(int round) throws NoSuchElementException {
        return roundNumbered(round).exhausted;
    }

    public int eliminatedIn(int round) throws NoSuchElementException {
        return found(roundNumbered(round).eliminated);
    }

    public boolean isTieIn(int round) throws NoSuchElementException {
        return roundNumbered(round).tie;
    }

    public int roundOfElimination(int wind) throws IndexOutOfBoundsException, NoSuchElementException {
        checkWind(wind);
        count.take(assembly);
        return found(count.roundThatEliminates(wind));
    }

    public float winnerShare() throws NoSuchElementException, ArithmeticException {
        count.take(assembly);
        if (count.size == 0) {
            throw new NoSuchElementException("no wind stands");
        }
        Round last = count.rounds[count.size - 1];
        int sum = last.sumOfVotes();
        if (sum == 0) {
            throw new ArithmeticException("no ballot counts in the last round");
        }
        return (float) last.votesOf(count.winner) / (float) sum;
    }

    // Pairs and scores

    public int preference(int wind, int other) throws IndexOutOfBoundsException {
        checkWind(wind);
        checkWind(other);
        return assembly.weightPreferring(wind, other);
    }

    public boolean beats(int wind, int other) throws IndexOutOfBoundsException {
        checkWind(wind);
        checkWind(other);
        return assembly.isStronger(wind, other);
    }

    public int victories(int wind) throws IndexOutOfBoundsException {
        checkWind(wind);
        return assembly.standingWindsBeatenBy(wind);
    }

    public int championOfPairs() throws NoSuchElementException {
        return found(assembly.championAmongPairs());
    }

    public int championByDuels() throws NoSuchElementException {
        return found(assembly.championAfterDuels());
    }

    public int scoreOf(int wind) throws IndexOutOfBoundsException {
        checkWind(wind);
        return assembly.scoreFor(wind);
    }

    public int windByScore(int place) throws NoSuchElementException {
        for (int wind = 0; wind < assembly.winds; wind++) {
            scores[wind] = assembly.scoreFor(wind);
        }
        int atPlace = NONE;
        for (int wind = 0; wind < assembly.winds; wind++) {
            if (placeByScore(wind) == place) {
                atPlace = wind;
            }
        }
        return found(atPlace);
    }

    // Spinner and seats

    public int spin() {
        before.copyFrom(assembly);
        settle(assembly.turnSpinner());
        return assembly.spinner;
    }

    public int spinValue() {
        return assembly.spinner;
    }

    public int certify() throws NoSuchElementException {
        before.copyFrom(assembly);
        settle(seatWinner());
        return count.winner;
    }

    public int seatCount() {
        return assembly.seats;
    }

    public int seatAt(int seat) throws NoSuchElementException {
        return found(assembly.windInSeat(seat));
    }

    // Lines, statistics and checks

    public int writeBallot(int ballot) throws IndexOutOfBoundsException {
        Ballot written = ballotNumbered(ballot);
        line.clear();
        line.appendNumber(written.weight);
        line.append(':');
        line.append(' ');
        for (int place = 0; place < written.size; place++) {
            if (place > 0) {
                line.append('>');
            }
            line.appendNumber(written.winds[place]);
        }
        return line.length;
    }

    public int writeCount() {
        count.take(assembly);
        line.clear();
        for (int number = 0; number < count.size; number++) {
            writeRound(count.rounds[number]);
        }
        return line.length;
    }

    public char lineAt(int index) throws IndexOutOfBoundsException {
        if (index < 0 || index >= line.length) {
            throw new IndexOutOfBoundsException("the line has no such character");
        }
        return line.characters[index];
    }

    public double meanRanks() throws ArithmeticException {
        if (assembly.ballotsIn == 0) {
            throw new ArithmeticException("there are no ballots");
        }
        return (double) assembly.ranksOfAll() / (double) assembly.ballotsIn;
    }

    public boolean isConsistent() {
        count.take(assembly);
        return count.winner == piles.elect(assembly)
                && assembly.championAmongPairs() == assembly.championAfterDuels()
                && count.addsUpTo(assembly.weightOfAll());
    }

    // Text, undo and snapshots

    public int type(char character) throws IllegalArgumentException, IllegalStateException {
        if (character < 32 || character > 126) {
            throw new IllegalArgumentException("the character is not from 32 to 126");
        }
        if (!reader.text.append(character)) {
            throw new IllegalStateException("the buffer contains 60 characters");
        }
        return reader.text.length;
    }

    public int execute() throws IllegalArgumentException, IllegalStateException {
        int commands = reader.countCommands();
        int failed = commands == NONE ? NONE : carryOutAll(commands);
        reader.text.clear();
        if (commands == NONE) {
            lastErrorPosition = reader.position;
            throw new IllegalArgumentException("the text is malformed");
        }
        if (failed != NONE) {
            lastFailedCommand = failed;
            throw new IllegalStateException("a command failed");
        }
        return commands;
    }

    public int errorPosition() throws NoSuchElementException {
        return found(lastErrorPosition);
    }

    public int failedCommand() throws NoSuchElementException {
        return found(lastFailedCommand);
    }

    public int undo() throws IllegalStateException {
        if (!history.takeBack(assembly)) {
            throw new IllegalStateException("nothing can be undone");
        }
        return history.size;
    }

    public int save() {
        snapshot.copyFrom(assembly);
        hasSnapshot = true;
        return assembly.ballotsIn;
    }

    public int restore() throws IllegalStateException {
        if (!hasSnapshot) {
            throw new IllegalStateException("there is no snapshot");
        }
        assembly.copyFrom(snapshot);
        history.forget();
        return assembly.ballotsIn;
    }

    // What the calls above share

    private void checkWind(int wind) throws IndexOutOfBoundsException {
        if (!assembly.hasWind(wind)) {
            throw new IndexOutOfBoundsException("there is no such wind");
        }
    }

    private Ballot ballotNumbered(int ballot) throws IndexOutOfBoundsException {
        if (!assembly.hasBallot(ballot)) {
            throw new IndexOutOfBoundsException("there is no such ballot");
        }
        return assembly.ballots[ballot];
    }

    private Round roundNumbered(int round) throws NoSuchElementException {
        count.take(assembly);
        if (round < 0 || round >= count.size) {
            throw new NoSuchElementException("there is no such round");
        }
        return count.rounds[round];
    }

    private static int found(int result) throws NoSuchElementException {
        if (result == NONE) {
            throw new NoSuchElementException("there is none");
        }
        return result;
    }

    /** Ends a modification: one without a fault can be undone from now on. */
    private void settle(Fault fault) {
        refuse(fault);
        history.remember(before);
    }

    private static void refuse(Fault fault) {
        switch (fault) {
            case NO_SUCH_WIND:
                throw new IndexOutOfBoundsException("there is no such wind");
            case NO_SUCH_BALLOT:
                throw new IndexOutOfBoundsException("there is no such ballot");
            case WEIGHT_OUT_OF_RANGE:
                throw new IllegalArgumentException("the weight is not from 1 to 99");
            case RANKED_ALREADY:
                throw new IllegalArgumentException("the ballot ranks the wind already");
            case TOO_MANY_WINDS:
                throw new IllegalStateException("there are 8 winds");
            case TOO_MANY_BALLOTS:
                throw new IllegalStateException("there are 20 ballots");
            case TOO_MANY_RANKS:
                throw new IllegalStateException("the ballot ranks 5 winds");
            case NOT_STANDING:
                throw new IllegalStateException("the wind does not stand");
            case NOBODY_STANDS:
                throw new NoSuchElementException("no wind stands");
            default:
                break;
        }
    }

    private Fault seatWinner() {
        count.take(assembly);
        if (!assembly.hasWind(count.winner)) {
            return Fault.NOBODY_STANDS;
        }
        assembly.giveSeat(count.winner);
        assembly.spinner = count.spinner;
        return Fault.NONE;
    }

    private int placeByScore(int wind) {
        int place = 0;
        for (int other = 0; other < assembly.winds; other++) {
            if (scores[other] > scores[wind] || (scores[other] == scores[wind] && other < wind)) {
                place++;
            }
        }
        return place;
    }

    private void writeRound(Round round) {
        if (round.eliminated == NONE) {
            line.appendNumber(round.winner);
            line.append('!');
        } else {
            line.appendNumber(round.eliminated);
            line.append(round.tie ? '*' : '-');
        }
    }

    /** Carries out the commands of a well-formed text, all or none, and answers the index of the one that failed. */
    private int carryOutAll(int commands) {
        before.copyFrom(assembly);
        reader.rewind();
        for (int index = 0; index < commands; index++) {
            if (!reader.readCommand() || carryOut() != Fault.NONE) {
                assembly.copyFrom(before);
                return index;
            }
        }
        history.remember(before);
        return NONE;
    }

    private Fault carryOut() {
        int first = reader.numbers[0];
        int second = reader.numbers[1];
        switch (reader.word) {
            case WIND:
                return assembly.putWind();
            case WITHDRAW:
                return assembly.letGo(first);
            case BALLOT:
                return carryOutBallot();
            case RANK:
                return assembly.extendBallot(first, second);
            case REMOVE:
                return assembly.dropBallot(first);
            case RECOUNT:
                return assembly.reweigh(first, second);
            case SPIN:
                return assembly.turnSpinner();
            case CERTIFY:
            default:
                return seatWinner();
        }
    }

    private Fault carryOutBallot() {
        Fault fault = assembly.putBallot(reader.numbers[0], reader.numbers[1]);
        int ballot = assembly.ballotsIn - 1;
        for (int i = 2; i < reader.numberCount && fault == Fault.NONE; i++) {
            fault = assembly.extendBallot(ballot, reader.numbers[i]);
        }
        return fault;
    }

    private static int spun(int value) {
        return (5 * value + 3) % SPINNER_VALUES;
    }

    /** Why a modification is refused. */
    private enum Fault {
        NONE, NO_SUCH_WIND, NO_SUCH_BALLOT, WEIGHT_OUT_OF_RANGE, RANKED_ALREADY,
        TOO_MANY_WINDS, TOO_MANY_BALLOTS, TOO_MANY_RANKS, NOT_STANDING, NOBODY_STANDS
    }

    /** The words that commands begin with; no word begins with another one, and the reader relies on this. */
    private enum Word {
        WIND("wind", 0, 0),
        WITHDRAW("withdraw", 1, 0),
        BALLOT("ballot", 2, 1),
        RANK("rank", 2, 1),
        REMOVE("remove", 2, 0),
        RECOUNT("recount", 2, 2),
        SPIN("spin", 0, 0),
        CERTIFY("certify", 0, 0);

        final String letters;
        /** The most digits that the first parameter may have; 0 if there is none. */
        final int firstDigits;
        final int secondDigits;

        Word(String letters, int firstDigits, int secondDigits) {
            this.letters = letters;
            this.firstDigits = firstDigits;
            this.secondDigits = secondDigits;
        }
    }

    private static final class Ballot {
        int weight;
        int size;
        final int[] winds = new int[MAX_RANKS];

        void start(int newWeight, int first) {
            weight = newWeight;
            size = 1;
            winds[0] = first;
        }

        boolean append(int wind) {
            if (size >= MAX_RANKS) {
                return false;
            }
            winds[size] = wind;
            size++;
            return true;
        }

        int placeOf(int wind) {
            for (int place = 0; place < size; place++) {
                if (winds[place] == wind) {
                    return place;
                }
            }
            return NONE;
        }

        boolean prefers(int wind, int other) {
            int place = placeOf(wind);
            int otherPlace = placeOf(other);
            return place != NONE && (otherPlace == NONE || place < otherPlace);
        }

        void copyFrom(Ballot other) {
            weight = other.weight;
            size = other.size;
            System.arraycopy(other.winds, 0, winds, 0, MAX_RANKS);
        }
    }

    /** All that undo, save and restore are about. */
    private static final class Assembly {
        int winds = 0;
        final boolean[] stands = new boolean[MAX_WINDS];
        final int[] seatOf = new int[MAX_WINDS];
        int seats = 0;
        int ballotsIn = 0;
        final Ballot[] ballots = new Ballot[MAX_BALLOTS];
        int spinner = 0;

        Assembly() {
            for (int ballot = 0; ballot < MAX_BALLOTS; ballot++) {
                ballots[ballot] = new Ballot();
            }
        }

        void copyFrom(Assembly other) {
            winds = other.winds;
            for (int wind = 0; wind < MAX_WINDS; wind++) {
                stands[wind] = other.stands[wind];
                seatOf[wind] = other.seatOf[wind];
            }
            seats = other.seats;
            ballotsIn = other.ballotsIn;
            for (int ballot = 0; ballot < other.ballotsIn; ballot++) {
                ballots[ballot].copyFrom(other.ballots[ballot]);
            }
            spinner = other.spinner;
        }

        boolean hasWind(int wind) {
            return wind >= 0 && wind < winds;
        }

        boolean hasBallot(int ballot) {
            return ballot >= 0 && ballot < ballotsIn;
        }

        Fault putWind() {
            if (winds >= MAX_WINDS) {
                return Fault.TOO_MANY_WINDS;
            }
            stands[winds] = true;
            seatOf[winds] = NONE;
            winds++;
            return Fault.NONE;
        }

        Fault letGo(int wind) {
            if (!hasWind(wind)) {
                return Fault.NO_SUCH_WIND;
            }
            if (!stands[wind]) {
                return Fault.NOT_STANDING;
            }
            stands[wind] = false;
            return Fault.NONE;
        }

        Fault putBallot(int weight, int first) {
            if (!hasWind(first)) {
                return Fault.NO_SUCH_WIND;
            }
            if (!isWeight(weight)) {
                return Fault.WEIGHT_OUT_OF_RANGE;
            }
            if (ballotsIn >= MAX_BALLOTS) {
                return Fault.TOO_MANY_BALLOTS;
            }
            ballots[ballotsIn].start(weight, first);
            ballotsIn++;
            return Fault.NONE;
        }

        Fault extendBallot(int ballot, int wind) {
            if (!hasBallot(ballot)) {
                return Fault.NO_SUCH_BALLOT;
            }
            if (!hasWind(wind)) {
                return Fault.NO_SUCH_WIND;
            }
            if (ballots[ballot].placeOf(wind) != NONE) {
                return Fault.RANKED_ALREADY;
            }
            return ballots[ballot].append(wind) ? Fault.NONE : Fault.TOO_MANY_RANKS;
        }

        Fault dropBallot(int ballot) {
            if (!hasBallot(ballot)) {
                return Fault.NO_SUCH_BALLOT;
            }
            Ballot dropped = ballots[ballot];
            for (int later = ballot + 1; later < ballotsIn; later++) {
                ballots[later - 1] = ballots[later];
            }
            ballotsIn--;
            // the object is used again for the next ballot
            ballots[ballotsIn] = dropped;
            return Fault.NONE;
        }

        Fault reweigh(int ballot, int weight) {
            if (!hasBallot(ballot)) {
                return Fault.NO_SUCH_BALLOT;
            }
            if (!isWeight(weight)) {
                return Fault.WEIGHT_OUT_OF_RANGE;
            }
            ballots[ballot].weight = weight;
            return Fault.NONE;
        }

        Fault turnSpinner() {
            spinner = spun(spinner);
            return Fault.NONE;
        }

        void giveSeat(int wind) {
            stands[wind] = false;
            seatOf[wind] = seats;
            seats++;
        }

        static boolean isWeight(int weight) {
            return weight >= 1 && weight <= MAX_WEIGHT;
        }

        int standingWinds() {
            int standing = 0;
            for (int wind = 0; wind < winds; wind++) {
                if (stands[wind]) {
                    standing++;
                }
            }
            return standing;
        }

        int windInSeat(int seat) {
            for (int wind = 0; wind < winds; wind++) {
                if (seatOf[wind] != NONE && seatOf[wind] == seat) {
                    return wind;
                }
            }
            return NONE;
        }

        int weightOfAll() {
            int sum = 0;
            for (int ballot = 0; ballot < ballotsIn; ballot++) {
                sum += ballots[ballot].weight;
            }
            return sum;
        }

        int ranksOfAll() {
            int sum = 0;
            for (int ballot = 0; ballot < ballotsIn; ballot++) {
                sum += ballots[ballot].size;
            }
            return sum;
        }

        int weightPreferring(int wind, int other) {
            int sum = 0;
            for (int ballot = 0; ballot < ballotsIn; ballot++) {
                if (ballots[ballot].prefers(wind, other)) {
                    sum += ballots[ballot].weight;
                }
            }
            return sum;
        }

        boolean isStronger(int wind, int other) {
            return weightPreferring(wind, other) > weightPreferring(other, wind);
        }

        int standingWindsBeatenBy(int wind) {
            int beaten = 0;
            for (int other = 0; other < winds; other++) {
                if (stands[other] && isStronger(wind, other)) {
                    beaten++;
                }
            }
            return beaten;
        }

        int championAmongPairs() {
            int rivals = standingWinds() - 1;
            for (int wind = 0; wind < winds; wind++) {
                if (stands[wind] && standingWindsBeatenBy(wind) == rivals) {
                    return wind;
                }
            }
            return NONE;
        }

        int championAfterDuels() {
            int champion = NONE;
            for (int wind = 0; wind < winds; wind++) {
                if (stands[wind] && (champion == NONE || isStronger(wind, champion))) {
                    champion = wind;
                }
            }
            if (champion == NONE || standingWindsBeatenBy(champion) != standingWinds() - 1) {
                return NONE;
            }
            return champion;
        }

        int scoreFor(int wind) {
            int score = 0;
            for (int ballot = 0; ballot < ballotsIn; ballot++) {
                int place = ballots[ballot].placeOf(wind);
                if (place != NONE) {
                    score += ballots[ballot].weight * (MAX_RANKS - place);
                }
            }
            return score;
        }
    }

    /** The votes of one round, and what follows from them. */
    private static final class Round {
        final int[] votes = new int[MAX_WINDS];
        int exhausted = 0;
        int winner = NONE;
        int eliminated = NONE;
        boolean tie = false;

        void openFirst(Assembly assembly) {
            for (int wind = 0; wind < MAX_WINDS; wind++) {
                votes[wind] = assembly.hasWind(wind) && assembly.stands[wind] ? 0 : OUT;
            }
            exhausted = 0;
        }

        void openAfter(Round previous) {
            for (int wind = 0; wind < MAX_WINDS; wind++) {
                votes[wind] = previous.continues(wind) && wind != previous.eliminated ? 0 : OUT;
            }
            exhausted = 0;
        }

        boolean continues(int wind) {
            return wind >= 0 && wind < MAX_WINDS && votes[wind] != OUT;
        }

        int votesOf(int wind) {
            return continues(wind) ? votes[wind] : 0;
        }

        /** Counts a ballot and answers the wind that it counts for, NONE if it is exhausted. */
        int add(Ballot ballot) {
            for (int place = 0; place < ballot.size; place++) {
                int wind = ballot.winds[place];
                if (continues(wind)) {
                    votes[wind] += ballot.weight;
                    return wind;
                }
            }
            exhausted += ballot.weight;
            return NONE;
        }

        /** Finds the winner or the wind that is eliminated, and answers the value of the spinner afterwards. */
        int decide(int spinner) {
            tie = false;
            eliminated = NONE;
            winner = windThatWins(sumOfVotes(), continuingWinds());
            if (winner != NONE) {
                return spinner;
            }
            int fewest = fewestVotes();
            int sharing = windsWith(fewest);
            if (sharing < 2) {
                eliminated = windWith(fewest, 0);
                return spinner;
            }
            tie = true;
            int turned = spun(spinner);
            eliminated = windWith(fewest, turned % sharing);
            return turned;
        }

        int windThatWins(int sum, int continuing) {
            for (int wind = 0; wind < MAX_WINDS; wind++) {
                if (votes[wind] != OUT && (continuing == 1 || 2 * votes[wind] > sum)) {
                    return wind;
                }
            }
            return NONE;
        }

        int sumOfVotes() {
            int sum = 0;
            for (int wind = 0; wind < MAX_WINDS; wind++) {
                if (votes[wind] != OUT) {
                    sum += votes[wind];
                }
            }
            return sum;
        }

        int continuingWinds() {
            int continuing = 0;
            for (int wind = 0; wind < MAX_WINDS; wind++) {
                if (votes[wind] != OUT) {
                    continuing++;
                }
            }
            return continuing;
        }

        int fewestVotes() {
            int fewest = NONE;
            for (int wind = 0; wind < MAX_WINDS; wind++) {
                if (votes[wind] != OUT && (fewest == NONE || votes[wind] < fewest)) {
                    fewest = votes[wind];
                }
            }
            return fewest;
        }

        int windsWith(int number) {
            int winds = 0;
            for (int wind = 0; wind < MAX_WINDS; wind++) {
                if (votes[wind] == number) {
                    winds++;
                }
            }
            return winds;
        }

        int windWith(int number, int index) {
            int before = 0;
            for (int wind = 0; wind < MAX_WINDS; wind++) {
                if (votes[wind] == number) {
                    if (before == index) {
                        return wind;
                    }
                    before++;
                }
            }
            return NONE;
        }
    }

    /** The rounds of an election, all ballots being counted anew in each. */
    private static final class Count {
        final Round[] rounds = new Round[MAX_WINDS];
        int size = 0;
        int winner = NONE;
        int spinner = 0;

        Count() {
            for (int round = 0; round < MAX_WINDS; round++) {
                rounds[round] = new Round();
            }
        }

        void take(Assembly assembly) {
            size = 0;
            winner = NONE;
            spinner = assembly.spinner;
            if (assembly.standingWinds() == 0) {
                return;
            }
            rounds[0].openFirst(assembly);
            for (int number = 0; number < MAX_WINDS && winner == NONE; number++) {
                Round round = rounds[number];
                if (number > 0) {
                    round.openAfter(rounds[number - 1]);
                }
                for (int ballot = 0; ballot < assembly.ballotsIn; ballot++) {
                    round.add(assembly.ballots[ballot]);
                }
                spinner = round.decide(spinner);
                winner = round.winner;
                size = number + 1;
            }
        }

        int roundThatEliminates(int wind) {
            for (int number = 0; number < size; number++) {
                if (rounds[number].eliminated == wind) {
                    return number;
                }
            }
            return NONE;
        }

        boolean addsUpTo(int weight) {
            for (int number = 0; number < size; number++) {
                if (rounds[number].sumOfVotes() + rounds[number].exhausted != weight) {
                    return false;
                }
            }
            return true;
        }
    }

    /** The other way to count: each ballot lies on the pile of a wind, and only piles of eliminated winds are moved. */
    private static final class Piles {
        final int[] pileOf = new int[MAX_BALLOTS];
        final Round round = new Round();

        int elect(Assembly assembly) {
            if (assembly.standingWinds() == 0) {
                return NONE;
            }
            round.openFirst(assembly);
            for (int ballot = 0; ballot < assembly.ballotsIn; ballot++) {
                pileOf[ballot] = round.add(assembly.ballots[ballot]);
            }
            int spinner = round.decide(assembly.spinner);
            for (int number = 1; number < MAX_WINDS && round.winner == NONE; number++) {
                transfer(assembly, round.eliminated);
                spinner = round.decide(spinner);
            }
            return round.winner;
        }

        void transfer(Assembly assembly, int wind) {
            if (!round.continues(wind)) {
                return;
            }
            round.votes[wind] = OUT;
            for (int ballot = 0; ballot < assembly.ballotsIn; ballot++) {
                if (pileOf[ballot] == wind) {
                    pileOf[ballot] = round.add(assembly.ballots[ballot]);
                }
            }
        }
    }

    /** The states before the last modifications, in a ring. */
    private static final class History {
        final Assembly[] states = new Assembly[MAX_UNDOS];
        int oldest = 0;
        int size = 0;

        History() {
            for (int state = 0; state < MAX_UNDOS; state++) {
                states[state] = new Assembly();
            }
        }

        void remember(Assembly state) {
            states[(oldest + size) % MAX_UNDOS].copyFrom(state);
            if (size < MAX_UNDOS) {
                size++;
            } else {
                oldest = (oldest + 1) % MAX_UNDOS;
            }
        }

        boolean takeBack(Assembly assembly) {
            if (size == 0) {
                return false;
            }
            size--;
            assembly.copyFrom(states[(oldest + size) % MAX_UNDOS]);
            return true;
        }

        void forget() {
            size = 0;
        }
    }

    private static final class Text {
        final char[] characters = new char[MAX_TEXT];
        int length = 0;

        void clear() {
            length = 0;
        }

        boolean append(char character) {
            if (length >= MAX_TEXT) {
                return false;
            }
            characters[length] = character;
            length++;
            return true;
        }

        /** Only for numbers of one or two digits. */
        void appendNumber(int number) {
            if (number >= 10) {
                append((char) ('0' + number / 10));
            }
            append((char) ('0' + number % 10));
        }

        boolean hasAt(int index, char character) {
            return index >= 0 && index < length && characters[index] == character;
        }

        /** The digit at an index, NONE if there is no digit. */
        int digitAt(int index) {
            if (index < 0 || index >= length || characters[index] < '0' || characters[index] > '9') {
                return NONE;
            }
            return characters[index] - '0';
        }
    }

    /** Reads the text buffer command by command; where it can't read on, its position is the error position. */
    private static final class Reader {
        final Text text = new Text();
        int position = 0;
        Word word = Word.WIND;
        /** No command has more: each takes two characters of the text at least. */
        final int[] numbers = new int[MAX_TEXT / 2];
        int numberCount = 0;

        void rewind() {
            position = 0;
        }

        /** Answers the number of commands in the text, NONE if it is malformed. */
        int countCommands() {
            rewind();
            for (int commands = 1; commands <= MAX_TEXT; commands++) {
                if (!readCommand()) {
                    return NONE;
                }
                if (position == text.length) {
                    return commands;
                }
            }
            return NONE;
        }

        boolean readCommand() {
            numberCount = 0;
            if (position > 0 && !accept(';')) {
                return false;
            }
            if (!readWord() || !readParameter(word.firstDigits) || !readParameter(word.secondDigits)) {
                return false;
            }
            return word != Word.BALLOT || readFurtherWinds();
        }

        boolean readWord() {
            int longest = 0;
            for (int i = 0; i < WORDS.length; i++) {
                int same = lettersRead(WORDS[i].letters);
                longest = Math.max(longest, same);
                if (same == WORDS[i].letters.length()) {
                    word = WORDS[i];
                    position += same;
                    return true;
                }
            }
            position += longest;
            return false;
        }

        int lettersRead(String letters) {
            int same = 0;
            while (same < letters.length() && text.hasAt(position + same, letters.charAt(same))) {
                same++;
            }
            return same;
        }

        boolean readParameter(int mostDigits) {
            return mostDigits == 0 || (accept(' ') && readNumber(mostDigits));
        }

        boolean readFurtherWinds() {
            for (int i = 0; i < MAX_TEXT; i++) {
                if (!accept('>')) {
                    return true;
                }
                if (!readNumber(1)) {
                    return false;
                }
            }
            return false;
        }

        boolean readNumber(int mostDigits) {
            int number = text.digitAt(position);
            if (number == NONE || numberCount >= numbers.length) {
                return false;
            }
            position++;
            int second = text.digitAt(position);
            if (mostDigits == 2 && second != NONE) {
                number = 10 * number + second;
                position++;
            }
            numbers[numberCount] = number;
            numberCount++;
            return true;
        }

        boolean accept(char character) {
            if (!text.hasAt(position, character)) {
                return false;
            }
            position++;
            return true;
        }
    }
}
