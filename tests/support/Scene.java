/** Assemblies to begin with, and looks at all that undo, save and restore are about. */
final class Scene {
    private Scene() {
    }

    static WindElection withWinds(int winds) {
        WindElection e = new WindElection();
        for (int i = 0; i < winds; i++) {
            e.addWind();
        }
        return e;
    }

    /** Adds a ballot, its winds being given as digits in the order of their ranks. */
    static void ballot(WindElection e, int weight, String winds) {
        int ballot = e.addBallot(weight, winds.charAt(0) - '0');
        for (int i = 1; i < winds.length(); i++) {
            e.rank(ballot, winds.charAt(i) - '0');
        }
    }

    static void type(WindElection e, String text) {
        for (int i = 0; i < text.length(); i++) {
            e.type(text.charAt(i));
        }
    }

    static int execute(WindElection e, String text) {
        type(e, text);
        return e.execute();
    }

    static String line(WindElection e, int length) {
        StringBuilder line = new StringBuilder();
        for (int i = 0; i < length; i++) {
            line.append(e.lineAt(i));
        }
        return line.toString();
    }

    static String count(WindElection e) {
        return line(e, e.writeCount());
    }

    static String ballotLine(WindElection e, int ballot) {
        return line(e, e.writeBallot(ballot));
    }

    /** The whole state, told by calls that do not touch the line. */
    static String state(WindElection e) {
        StringBuilder state = new StringBuilder();
        for (int wind = 0; wind < e.windCount(); wind++) {
            state.append(e.isStanding(wind) ? 's' : e.hasSeat(wind) ? 't' : 'w');
        }
        state.append('|');
        for (int seat = 0; seat < e.seatCount(); seat++) {
            state.append(e.seatAt(seat));
        }
        state.append('|').append(e.spinValue());
        for (int ballot = 0; ballot < e.ballotCount(); ballot++) {
            state.append('|').append(e.weightOf(ballot)).append(':');
            for (int rank = 0; rank < e.rankCount(ballot); rank++) {
                state.append(e.windAt(ballot, rank));
            }
        }
        return state.toString();
    }

    /** Checks that a call is refused and leaves the state as it was. */
    static void refused(WindElection e, String call, Class<? extends RuntimeException> want, Due.Call made) {
        String before = state(e);
        Due.refusal(call, want, made);
        Due.compare("the state after " + call, state(e), before);
    }
}
