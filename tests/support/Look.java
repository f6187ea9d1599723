import java.util.ArrayList;
import java.util.List;

/** All that calls can tell of an object. What a look would change is looked at on an object of its own. */
final class Look {
    private static final int MOST_UNDOS = 8;

    private Look() {
    }

    /** The winds (standing, withdrawn or with a seat taken), the seats, the spinner and the ballots. */
    static String state(WindElection e) {
        StringBuilder state = new StringBuilder();
        for (int wind = 0; wind < e.windCount(); wind++) {
            state.append(e.isStanding(wind) ? 's' : e.hasSeat(wind) ? 't' : 'w');
        }
        state.append('|');
        for (int seat = 0; seat < e.seatCount(); seat++) {
            state.append(e.seatAt(seat));
        }
        state.append('|').append(e.spinValue());
        for (int ballot = 0; ballot < e.ballotCount(); ballot++) {
            state.append('|').append(e.weightOf(ballot)).append(':');
            for (int rank = 0; rank < e.rankCount(ballot); rank++) {
                state.append(e.windAt(ballot, rank));
            }
        }
        return state.toString();
    }

    static String line(WindElection e) {
        StringBuilder line = new StringBuilder();
        String character = new Call("lineAt", 0).on(e);
        while (!Call.isRefusal(character)) {
            line.append(character);
            character = new Call("lineAt", line.length()).on(e);
        }
        return line.toString();
    }

    static String undos(Given given) {
        WindElection e = given.make();
        List<String> undos = new ArrayList<>();
        String left = new Call("undo").on(e);
        while (!Call.isRefusal(left)) {
            undos.add(left + " left: " + state(e));
            left = new Call("undo").on(e);
        }
        return undos.toString();
    }

    /** What undo tells after one more modification, the present state being the one before it. */
    static String undosAfterModification(Given given) {
        List<String> states = new ArrayList<>();
        WindElection e = given.make();
        do {
            states.add(state(e));
        } while (states.size() < MOST_UNDOS && !Call.isRefusal(new Call("undo").on(e)));
        List<String> undos = new ArrayList<>();
        for (String state : states) {
            undos.add(states.size() - 1 - undos.size() + " left: " + state);
        }
        return undos.toString();
    }

    static String wholeState(Given given) {
        return given.state() + ", undo: " + undos(given);
    }

    /** The buffer is seen by what it answers to a character and to its execution. */
    private static String text(Given given) {
        WindElection e = given.make();
        return "error at " + new Call("errorPosition").on(e) + ", failed " + new Call("failedCommand").on(e)
                + ", buffer " + new Call("type", '~').on(e) + ' ' + new Call("execute").on(e) + ' '
                + new Call("errorPosition").on(e) + ' ' + new Call("failedCommand").on(e);
    }

    private static String snapshot(Given given) {
        WindElection e = given.make();
        String restored = new Call("restore").on(e);
        return restored + (Call.isRefusal(restored) ? "" : ": " + state(e));
    }

    static String lineAndSnapshot(Given given) {
        return "line " + line(given.make()) + ", snapshot " + snapshot(given);
    }

    static String textAndSnapshot(Given given) {
        return text(given) + ", snapshot " + snapshot(given);
    }

    /** All but the state and what can be undone. */
    static String rest(Given given) {
        return "line " + line(given.make()) + ", " + textAndSnapshot(given);
    }

    static String all(Given given) {
        return wholeState(given) + ", " + rest(given);
    }
}
