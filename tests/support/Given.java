import java.util.ArrayList;
import java.util.Collections;
import java.util.List;
import java.util.Set;
import java.util.stream.Collectors;
import java.util.stream.IntStream;

/**
 * A run of calls on a new object, and checks of the call that comes next. Each check makes new objects, so none is
 * touched by another one.
 */
final class Given {
    static final String INDEX = "throws.IndexOutOfBoundsException";
    static final String ARGUMENT = "throws.IllegalArgumentException";
    static final String STATE = "throws.IllegalStateException";
    static final String MISSING = "throws.NoSuchElementException";
    static final String ARITHMETIC = "throws.ArithmeticException";

    /** Calls whose answers tell of the line, the text, its positions or the snapshot. */
    private static final Set<String> TELL_OF_THE_REST =
            Set.of("lineAt", "type", "execute", "errorPosition", "failedCommand", "restore");

    private final List<Call> calls;

    private Given(List<Call> calls) {
        this.calls = calls;
    }

    static Given nothing() {
        return new Given(List.of());
    }

    static Given winds(int number) {
        return nothing().times(number, "addWind");
    }

    /** So many ballots of weight 7 for the only wind. */
    static Given ballots(int number) {
        return winds(1).times(number, "addBallot", 7, 0);
    }

    Given after(String name, Object... arguments) {
        List<Call> more = new ArrayList<>(calls);
        more.add(new Call(name, arguments));
        return new Given(more);
    }

    Given times(int number, String name, Object... arguments) {
        List<Call> more = new ArrayList<>(calls);
        more.addAll(Collections.nCopies(number, new Call(name, arguments)));
        return new Given(more);
    }

    /** A further ballot, its winds being given as digits in the order of their ranks. */
    Given ballot(int weight, String winds) {
        int number = make().ballotCount();
        Given given = after("addBallot", weight, winds.charAt(0) - '0');
        for (int i = 1; i < winds.length(); i++) {
            given = given.after("rank", number, winds.charAt(i) - '0');
        }
        return given;
    }

    Given typed(String text) {
        Given given = this;
        for (char character : text.toCharArray()) {
            given = given.after("type", character);
        }
        return given;
    }

    Given executed(String text) {
        return typed(text).after("execute");
    }

    WindElection make() {
        WindElection election = new WindElection();
        for (Call call : calls) {
            call.on(election);
        }
        return election;
    }

    String state() {
        return Look.state(make());
    }

    /** A question: its answer, and that nothing has changed. */
    void tells(Object want, String name, Object... arguments) {
        for (Given given : plainAndBusy(name)) {
            given.answers(want, name, arguments);
            given.staysAfter(name, arguments);
        }
    }

    /** The exception of a refused call, and that nothing has changed. */
    void refuses(String want, String name, Object... arguments) {
        tells(want, name, arguments);
    }

    /** A question with an answer, whatever it is. */
    void allows(String name, Object... arguments) {
        String answer = new Call(name, arguments).on(make());
        compare(new Call(name, arguments) + " is allowed", "" + !Call.isRefusal(answer), "true");
    }

    /** A modification: its answer, the state after it, that it can be undone, and that nothing else has changed. */
    void changes(Object want, String state, String name, Object... arguments) {
        for (Given given : plainAndBusy(name)) {
            given.answers(want, name, arguments);
            Given changed = given.after(name, arguments);
            changed.compare("the state", changed.state(), state);
            changed.compare("what can be undone", Look.undos(changed), Look.undosAfterModification(given));
            changed.compare("the rest", Look.rest(changed), Look.rest(given));
        }
    }

    /** The execution of a text: as for any modification, and the buffer is empty afterwards. */
    void executes(int commands, String state, String text) {
        typed(text).answers(commands, "execute");
        Given changed = executed(text);
        changed.compare("the state", changed.state(), state);
        changed.compare("what can be undone", Look.undos(changed), Look.undosAfterModification(this));
        changed.compare("the rest", Look.rest(changed), Look.rest(this));
    }

    /** The refusal of a text: the state stays, the buffer is empty and one of the two positions is stored. */
    private void refusesText(String want, String text, String errorPosition, String failedCommand) {
        typed(text).answers(want, "execute");
        Given refused = executed(text);
        refused.compare("the state", Look.wholeState(refused), Look.wholeState(this));
        refused.compare("the line and the snapshot", Look.lineAndSnapshot(refused), Look.lineAndSnapshot(this));
        refused.answers(1, "type", 'w');
        refused.answers(ARGUMENT, "execute");
        refused.answers(errorPosition, "errorPosition");
        refused.answers(failedCommand, "failedCommand");
    }

    void failsIn(int command, String text) {
        refusesText(STATE, text, new Call("errorPosition").on(make()), "" + command);
    }

    void isMalformedAt(int position, String text) {
        refusesText(ARGUMENT, text, "" + position, new Call("failedCommand").on(make()));
    }

    /** A call that writes the line: it answers the length, and nothing but the line has changed. */
    void writes(String line, String name, Object... arguments) {
        for (Given given : plainAndBusy(name)) {
            given.answers(line.length(), name, arguments);
            Given written = given.after(name, arguments);
            written.compare("the line", Look.line(written.make()), line);
            written.compare("the state", Look.wholeState(written), Look.wholeState(given));
            written.compare("the text and the snapshot", Look.textAndSnapshot(written), Look.textAndSnapshot(given));
        }
    }

    /** The answer alone, for calls of which more is checked elsewhere. */
    void answers(Object want, String name, Object... arguments) {
        Call call = new Call(name, arguments);
        compare(call.toString(), call.on(make()), String.valueOf(want));
    }

    private void staysAfter(String name, Object... arguments) {
        compare("all that can be told after " + new Call(name, arguments), Look.all(after(name, arguments)),
                Look.all(this));
    }

    void compare(String what, String got, String want) {
        Due.compare(this + " " + what, got, want);
    }

    /** The same with a line, a text, both positions and a snapshot, unless these are what is asked for. */
    private List<Given> plainAndBusy(String name) {
        return TELL_OF_THE_REST.contains(name) ? List.of(this) : List.of(this, busy());
    }

    Given busy() {
        return executed("wind;x").executed("spin;remove 99").after("writeCount").after("writeBallot", 0).after("save")
                .typed("spin;wi");
    }

    /** Numbers that are none of the first so many, those that are nearest first of all. */
    static int[] outside(int count) {
        IntStream above = IntStream.rangeClosed(count, Math.max(count, 21));
        return IntStream.concat(IntStream.of(-1, Integer.MIN_VALUE, Integer.MAX_VALUE), above).toArray();
    }

    /** Refuses each number of a wind that there is not, as the argument that is given as null. */
    static void needsWind(String name, Object... arguments) {
        for (int number : new int[] {0, 1, 7, 8}) {
            winds(number).refusesOutside(number, INDEX, name, arguments);
        }
    }

    /** Refuses each number of a ballot that there is not, as the argument that is given as null. */
    static void needsBallot(String name, Object... arguments) {
        for (int number : new int[] {0, 1, 19, 20}) {
            ballots(number).refusesOutside(number, INDEX, name, arguments);
        }
    }

    void refusesOutside(int count, String want, String name, Object... arguments) {
        for (int number : outside(count)) {
            Object[] filled = arguments.clone();
            for (int i = 0; i < filled.length; i++) {
                filled[i] = filled[i] == null ? (Object) number : filled[i];
            }
            refuses(want, name, filled);
        }
    }

    @Override
    public String toString() {
        String run = calls.stream().map(Call::toString).collect(Collectors.joining(" "));
        return "[" + run.replaceAll("\\) type\\((?=.)", "") + "]";
    }
}
