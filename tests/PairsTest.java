import java.util.NoSuchElementException;

/** Promises 27 to 33. */
public final class PairsTest {
    public static void main(String[] args) {
        promise27Preference();
        promise28Beats();
        promise29Victories();
        promises30And31Champion();
        promises30And31NoChampion();
        promise32ScoreOf();
        promise33WindByScore();
        Due.finish();
    }

    private static void promise27Preference() {
        WindElection e = Scene.withWinds(4);
        Scene.ballot(e, 5, "01");
        Scene.ballot(e, 4, "12");
        Scene.ballot(e, 30, "20");
        e.withdraw(1);
        Due.answer("preference(0, 1)", 35, () -> e.preference(0, 1));
        Due.answer("preference(1, 0)", 4, () -> e.preference(1, 0));
        Due.answer("preference(1, 2)", 9, () -> e.preference(1, 2));
        Due.answer("preference(2, 0)", 34, () -> e.preference(2, 0));
        Due.answer("preference(3, 0)", 0, () -> e.preference(3, 0));
        Due.answer("preference(0, 3)", 35, () -> e.preference(0, 3));
        Due.answer("preference(0, 0)", 0, () -> e.preference(0, 0));
        Due.refusal("preference(4, 0)", IndexOutOfBoundsException.class, () -> e.preference(4, 0));
        Due.refusal("preference(0, 4)", IndexOutOfBoundsException.class, () -> e.preference(0, 4));
        Due.refusal("preference(-1, 0)", IndexOutOfBoundsException.class, () -> e.preference(-1, 0));
        Due.refusal("preference(0, -1)", IndexOutOfBoundsException.class, () -> e.preference(0, -1));
    }

    private static void promise28Beats() {
        WindElection e = Scene.withWinds(3);
        Scene.ballot(e, 5, "012");
        Scene.ballot(e, 5, "102");
        Due.answer("beats(0, 2)", true, () -> e.beats(0, 2));
        Due.answer("beats(2, 0)", false, () -> e.beats(2, 0));
        Due.answer("beats(0, 1) of equals", false, () -> e.beats(0, 1));
        Due.answer("beats(1, 0) of equals", false, () -> e.beats(1, 0));
        Due.answer("beats(0, 0)", false, () -> e.beats(0, 0));
        e.recount(0, 6);
        Due.answer("beats(0, 1)", true, () -> e.beats(0, 1));
        Due.answer("beats(1, 0)", false, () -> e.beats(1, 0));
        Due.refusal("beats(3, 0)", IndexOutOfBoundsException.class, () -> e.beats(3, 0));
        Due.refusal("beats(0, 3)", IndexOutOfBoundsException.class, () -> e.beats(0, 3));
        Due.refusal("beats(-1, 0)", IndexOutOfBoundsException.class, () -> e.beats(-1, 0));
        Due.refusal("beats(0, -1)", IndexOutOfBoundsException.class, () -> e.beats(0, -1));
    }

    private static void promise29Victories() {
        WindElection e = Scene.withWinds(4);
        Scene.ballot(e, 5, "0123");
        Due.answer("victories(0)", 3, () -> e.victories(0));
        Due.answer("victories(3)", 0, () -> e.victories(3));
        e.withdraw(1);
        Due.answer("victories(0) over those that stand", 2, () -> e.victories(0));
        Due.answer("victories(1) of one that withdrew", 2, () -> e.victories(1));
        e.certify();
        Due.answer("victories(0) of one with a seat", 2, () -> e.victories(0));
        Due.answer("victories(2)", 1, () -> e.victories(2));
        Due.refusal("victories(4)", IndexOutOfBoundsException.class, () -> e.victories(4));
        Due.refusal("victories(-1)", IndexOutOfBoundsException.class, () -> e.victories(-1));
    }

    private static void champion(WindElection e, String what, Object want) {
        Due.answer("championOfPairs " + what, want, () -> e.championOfPairs());
        Due.answer("championByDuels " + what, want, () -> e.championByDuels());
    }

    private static void promises30And31Champion() {
        for (int first = 0; first < 4; first++) {
            WindElection e = Scene.withWinds(4);
            e.addBallot(1, first);
            champion(e, "ranked alone", first);
        }
        WindElection e = Scene.withWinds(3);
        Scene.ballot(e, 2, "012");
        Scene.ballot(e, 1, "120");
        champion(e, "of three", 0);
        e.withdraw(0);
        champion(e, "after 0 withdrew", 1);
        e.withdraw(2);
        champion(e, "when it is the only one", 1);
    }

    private static void promises30And31NoChampion() {
        String none = "throws.NoSuchElementException";
        champion(new WindElection(), "of none", none);
        champion(Scene.withWinds(1), "of one without ballots", 0);
        champion(Scene.withWinds(2), "of two without ballots", none);
        WindElection circle = Scene.withWinds(3);
        Scene.ballot(circle, 1, "012");
        Scene.ballot(circle, 1, "120");
        Scene.ballot(circle, 1, "201");
        champion(circle, "of a circle", none);
        WindElection equals = Scene.withWinds(3);
        Scene.ballot(equals, 1, "021");
        Scene.ballot(equals, 1, "201");
        champion(equals, "of two equals", none);
        circle.withdraw(1);
        champion(circle, "of a broken circle", 2);
        circle.withdraw(0);
        circle.withdraw(2);
        champion(circle, "when all withdrew", none);
    }

    private static void promise32ScoreOf() {
        WindElection e = Scene.withWinds(6);
        Scene.ballot(e, 10, "01234");
        Scene.ballot(e, 3, "10");
        e.withdraw(1);
        int[] due = {62, 55, 30, 20, 10, 0};
        for (int w = 0; w < 6; w++) {
            int wind = w;
            Due.answer("scoreOf(" + w + ")", due[w], () -> e.scoreOf(wind));
        }
        Due.refusal("scoreOf(6)", IndexOutOfBoundsException.class, () -> e.scoreOf(6));
        Due.refusal("scoreOf(-1)", IndexOutOfBoundsException.class, () -> e.scoreOf(-1));
        WindElection full = Scene.withWinds(1);
        for (int i = 0; i < 20; i++) {
            full.addBallot(99, 0);
        }
        Due.answer("the greatest score", 9900, () -> full.scoreOf(0));
    }

    private static void promise33WindByScore() {
        WindElection e = Scene.withWinds(6);
        Scene.ballot(e, 4, "35");
        Scene.ballot(e, 4, "1");
        Scene.ballot(e, 1, "4");
        e.withdraw(3);
        int[] due = {1, 3, 5, 4, 0, 2};
        for (int p = 0; p < 6; p++) {
            int place = p;
            Due.answer("windByScore(" + p + ")", due[p], () -> e.windByScore(place));
        }
        Due.refusal("windByScore(6)", NoSuchElementException.class, () -> e.windByScore(6));
        Due.refusal("windByScore(-1)", NoSuchElementException.class, () -> e.windByScore(-1));
        WindElection none = new WindElection();
        Due.refusal("windByScore(0) of none", NoSuchElementException.class, () -> none.windByScore(0));
    }
}
