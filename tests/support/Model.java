import java.util.ArrayDeque;
import java.util.ArrayList;
import java.util.Collections;
import java.util.Deque;
import java.util.List;
import java.util.NoSuchElementException;
import java.util.regex.Matcher;
import java.util.regex.Pattern;

/** The document in other words, with the whole Java library: ModelTest compares WindElection with it. */
public final class Model {
    private static final Pattern COMMAND = Pattern.compile("wind|withdraw [0-9]|ballot [0-9]{1,2} [0-9](>[0-9])*"
            + "|rank [0-9]{1,2} [0-9]|remove [0-9]{1,2}|recount [0-9]{1,2} [0-9]{1,2}|spin|certify");
    private static final Pattern TEXT = Pattern.compile("(" + COMMAND + ")(;(" + COMMAND + "))*");

    private static final class Paper {
        int weight;
        final List<Integer> winds = new ArrayList<>();

        Paper copy() {
            Paper copy = new Paper();
            copy.weight = weight;
            copy.winds.addAll(winds);
            return copy;
        }

        boolean prefers(int wind, int other) {
            int place = winds.indexOf(wind);
            int otherPlace = winds.indexOf(other);
            return place >= 0 && (otherPlace < 0 || place < otherPlace);
        }
    }

    private static final class State {
        int winds = 0;
        List<Integer> standing = new ArrayList<>();
        List<Integer> seats = new ArrayList<>();
        List<Paper> papers = new ArrayList<>();
        int spinner = 0;

        State copy() {
            State copy = new State();
            copy.winds = winds;
            copy.standing = new ArrayList<>(standing);
            copy.seats = new ArrayList<>(seats);
            for (Paper paper : papers) {
                copy.papers.add(paper.copy());
            }
            copy.spinner = spinner;
            return copy;
        }
    }

    private static final class Turn {
        final List<Integer> winds = new ArrayList<>();
        final List<Integer> votes = new ArrayList<>();
        int exhausted = 0;
        int sum = 0;
        Integer winner = null;
        Integer loser = null;
        boolean tie = false;
        int spinner = 0;
    }

    private State state = new State();
    private State saved = null;
    private final Deque<State> past = new ArrayDeque<>();
    private final StringBuilder typed = new StringBuilder();
    private String line = "";
    private Integer errorAt = null;
    private Integer failedAt = null;

    private void modified(State before) {
        past.push(before);
        if (past.size() > 8) {
            past.removeLast();
        }
    }

    private void needWind(int wind) {
        if (wind < 0 || wind >= state.winds) {
            throw new IndexOutOfBoundsException();
        }
    }

    private Paper paper(int ballot) {
        if (ballot < 0 || ballot >= state.papers.size()) {
            throw new IndexOutOfBoundsException();
        }
        return state.papers.get(ballot);
    }

    private static void needWeight(int weight) {
        if (weight < 1 || weight > 99) {
            throw new IllegalArgumentException();
        }
    }

    private static void needState(boolean held) {
        if (!held) {
            throw new IllegalStateException();
        }
    }

    private static <T> T found(T result) {
        if (result == null) {
            throw new NoSuchElementException();
        }
        return result;
    }

    public int addWind() {
        needState(state.winds < 8);
        modified(state.copy());
        state.standing.add(state.winds);
        return state.winds++;
    }

    public int withdraw(int wind) {
        needWind(wind);
        needState(state.standing.contains(wind));
        modified(state.copy());
        state.standing.remove((Integer) wind);
        return state.standing.size();
    }

    public int windCount() {
        return state.winds;
    }

    public int standingCount() {
        return state.standing.size();
    }

    public boolean isStanding(int wind) {
        needWind(wind);
        return state.standing.contains(wind);
    }

    public boolean hasSeat(int wind) {
        needWind(wind);
        return state.seats.contains(wind);
    }

    public int addBallot(int weight, int first) {
        needWind(first);
        needWeight(weight);
        needState(state.papers.size() < 20);
        modified(state.copy());
        Paper paper = new Paper();
        paper.weight = weight;
        paper.winds.add(first);
        state.papers.add(paper);
        return state.papers.size() - 1;
    }

    public int rank(int ballot, int wind) {
        Paper paper = paper(ballot);
        needWind(wind);
        if (paper.winds.contains(wind)) {
            throw new IllegalArgumentException();
        }
        needState(paper.winds.size() < 5);
        modified(state.copy());
        paper.winds.add(wind);
        return paper.winds.size() - 1;
    }

    public int removeBallot(int ballot) {
        int weight = paper(ballot).weight;
        modified(state.copy());
        state.papers.remove(ballot);
        return weight;
    }

    public int recount(int ballot, int weight) {
        int previous = paper(ballot).weight;
        needWeight(weight);
        modified(state.copy());
        paper(ballot).weight = weight;
        return previous;
    }

    public int ballotCount() {
        return state.papers.size();
    }

    public int weightOf(int ballot) {
        return paper(ballot).weight;
    }

    public int rankCount(int ballot) {
        return paper(ballot).winds.size();
    }

    public int windAt(int ballot, int rank) {
        List<Integer> winds = paper(ballot).winds;
        return found(rank >= 0 && rank < winds.size() ? winds.get(rank) : null);
    }

    public int rankOf(int ballot, int wind) {
        int rank = paper(ballot).winds.indexOf(wind);
        needWind(wind);
        return found(rank < 0 ? null : (Integer) rank);
    }

    public int totalWeight() {
        return state.papers.stream().mapToInt(paper -> paper.weight).sum();
    }

    private List<Turn> turns() {
        List<Turn> turns = new ArrayList<>();
        if (!state.standing.isEmpty()) {
            follow(turns, new ArrayList<>(state.standing), state.spinner);
        }
        return turns;
    }

    private void follow(List<Turn> turns, List<Integer> continuing, int spinner) {
        Collections.sort(continuing);
        Turn turn = new Turn();
        turns.add(turn);
        turn.winds.addAll(continuing);
        turn.spinner = spinner;
        for (int wind : continuing) {
            int votes = state.papers.stream().filter(p -> ((Integer) wind).equals(choice(p, continuing)))
                    .mapToInt(p -> p.weight).sum();
            turn.votes.add(votes);
            turn.sum += votes;
        }
        turn.exhausted = totalWeight() - turn.sum;
        int most = Collections.max(turn.votes);
        if (continuing.size() == 1 || most > turn.sum - most) {
            turn.winner = continuing.get(turn.votes.indexOf(most));
            return;
        }
        int fewest = Collections.min(turn.votes);
        List<Integer> losers = new ArrayList<>();
        for (int i = 0; i < continuing.size(); i++) {
            if (turn.votes.get(i) == fewest) {
                losers.add(continuing.get(i));
            }
        }
        turn.tie = losers.size() >= 2;
        turn.spinner = turn.tie ? (5 * spinner + 3) & 15 : spinner;
        turn.loser = losers.get(turn.tie ? turn.spinner % losers.size() : 0);
        List<Integer> rest = new ArrayList<>(continuing);
        rest.remove(turn.loser);
        follow(turns, rest, turn.spinner);
    }

    private static Integer choice(Paper paper, List<Integer> continuing) {
        return paper.winds.stream().filter(continuing::contains).findFirst().orElse(null);
    }

    private Turn last() {
        List<Turn> turns = turns();
        return found(turns.isEmpty() ? null : turns.get(turns.size() - 1));
    }

    private Turn turn(int round) {
        List<Turn> turns = turns();
        return found(round >= 0 && round < turns.size() ? turns.get(round) : null);
    }

    public int winner() {
        return last().winner;
    }

    public int winnerByTransfers() {
        return last().winner;
    }

    public int roundCount() {
        return turns().size();
    }

    public int votesIn(int round, int wind) {
        needWind(wind);
        Turn turn = turn(round);
        int index = turn.winds.indexOf(wind);
        return found(index < 0 ? null : turn.votes.get(index));
    }

    public int exhaustedIn(int round) {
        return turn(round).exhausted;
    }

    public int eliminatedIn(int round) {
        return found(turn(round).loser);
    }

    public boolean isTieIn(int round) {
        return turn(round).tie;
    }

    public int roundOfElimination(int wind) {
        needWind(wind);
        List<Turn> turns = turns();
        for (Turn turn : turns) {
            if (((Integer) wind).equals(turn.loser)) {
                return turns.indexOf(turn);
            }
        }
        throw new NoSuchElementException();
    }

    public float winnerShare() {
        Turn last = last();
        if (last.sum == 0) {
            throw new ArithmeticException();
        }
        return (float) last.votes.get(last.winds.indexOf(last.winner)) / (float) last.sum;
    }

    public int preference(int wind, int other) {
        needWind(wind);
        needWind(other);
        return state.papers.stream().filter(p -> p.prefers(wind, other)).mapToInt(p -> p.weight).sum();
    }

    public boolean beats(int wind, int other) {
        return preference(wind, other) > preference(other, wind);
    }

    public int victories(int wind) {
        needWind(wind);
        return (int) state.standing.stream().filter(other -> beats(wind, other)).count();
    }

    public int championOfPairs() {
        return found(state.standing.stream().filter(wind -> victories(wind) == state.standing.size() - 1)
                .findFirst().orElse(null));
    }

    public int championByDuels() {
        return championOfPairs();
    }

    public int scoreOf(int wind) {
        needWind(wind);
        int score = 0;
        for (Paper paper : state.papers) {
            if (paper.winds.contains(wind)) {
                score += paper.weight * (5 - paper.winds.indexOf(wind));
            }
        }
        return score;
    }

    public int windByScore(int place) {
        List<Integer> order = new ArrayList<>();
        for (int wind = 0; wind < state.winds; wind++) {
            order.add(wind);
        }
        order.sort((a, b) -> scoreOf(a) != scoreOf(b) ? scoreOf(b) - scoreOf(a) : a - b);
        return found(place >= 0 && place < order.size() ? order.get(place) : null);
    }

    public int spin() {
        modified(state.copy());
        state.spinner = (5 * state.spinner + 3) % 16;
        return state.spinner;
    }

    public int spinValue() {
        return state.spinner;
    }

    public int certify() {
        Turn last = last();
        modified(state.copy());
        state.standing.remove(last.winner);
        state.seats.add(last.winner);
        state.spinner = last.spinner;
        return last.winner;
    }

    public int seatCount() {
        return state.seats.size();
    }

    public int seatAt(int seat) {
        return found(seat >= 0 && seat < state.seats.size() ? state.seats.get(seat) : null);
    }

    public int writeBallot(int ballot) {
        Paper paper = paper(ballot);
        String winds = paper.winds.toString().replaceAll("[\\[\\] ]", "").replace(',', '>');
        line = paper.weight + ": " + winds;
        return line.length();
    }

    public int writeCount() {
        line = "";
        for (Turn turn : turns()) {
            line += turn.loser == null ? turn.winner + "!" : turn.loser + (turn.tie ? "*" : "-");
        }
        return line.length();
    }

    public char lineAt(int index) {
        if (index < 0 || index >= line.length()) {
            throw new IndexOutOfBoundsException();
        }
        return line.charAt(index);
    }

    public double meanRanks() {
        if (state.papers.isEmpty()) {
            throw new ArithmeticException();
        }
        int sum = state.papers.stream().mapToInt(p -> p.winds.size()).sum();
        return (double) sum / (double) state.papers.size();
    }

    public boolean isConsistent() {
        return true;
    }

    public int type(char character) {
        if (character < 32 || character > 126) {
            throw new IllegalArgumentException();
        }
        needState(typed.length() < 60);
        typed.append(character);
        return typed.length();
    }

    public int execute() {
        String text = typed.toString();
        typed.setLength(0);
        if (!TEXT.matcher(text).matches()) {
            errorAt = 0;
            while (errorAt < text.length() && isBeginning(text.substring(0, errorAt + 1))) {
                errorAt++;
            }
            throw new IllegalArgumentException();
        }
        State before = state.copy();
        List<State> pastBefore = new ArrayList<>(past);
        String[] commands = text.split(";");
        boolean well = true;
        for (int i = 0; i < commands.length && well; i++) {
            well = obey(commands[i].split("[ >]"));
            if (!well) {
                failedAt = i;
            }
        }
        past.clear();
        past.addAll(pastBefore);
        if (!well) {
            state = before;
            throw new IllegalStateException();
        }
        modified(before);
        return commands.length;
    }

    private static boolean isBeginning(String text) {
        Matcher matcher = TEXT.matcher(text);
        return matcher.matches() || matcher.hitEnd();
    }

    private boolean obey(String[] words) {
        int[] n = new int[words.length];
        for (int i = 1; i < n.length; i++) {
            n[i] = Integer.parseInt(words[i]);
        }
        try {
            switch (words[0]) {
                case "wind" -> addWind();
                case "withdraw" -> withdraw(n[1]);
                case "rank" -> rank(n[1], n[2]);
                case "remove" -> removeBallot(n[1]);
                case "recount" -> recount(n[1], n[2]);
                case "spin" -> spin();
                case "certify" -> certify();
                default -> {
                    int ballot = addBallot(n[1], n[2]);
                    for (int i = 3; i < n.length; i++) {
                        rank(ballot, n[i]);
                    }
                }
            }
            return true;
        } catch (RuntimeException e) {
            return false;
        }
    }

    public int errorPosition() {
        return found(errorAt);
    }

    public int failedCommand() {
        return found(failedAt);
    }

    public int undo() {
        needState(!past.isEmpty());
        state = past.pop();
        return past.size();
    }

    public int save() {
        saved = state.copy();
        return state.papers.size();
    }

    public int restore() {
        needState(saved != null);
        state = saved.copy();
        past.clear();
        return state.papers.size();
    }
}
