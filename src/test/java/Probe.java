import java.util.ArrayList;
import java.util.List;

/**
 * Asks an object for all that it holds, also for what no call tells without changing it: how many
 * things there are, what was lost and ended, how doors are, which rows they have and what they know.
 * Each part wants an object of its own, as most parts change it.
 */
final class Probe {
    static final String[] PARTS = {
        "what is told", "who is where", "what was found, doors and cards", "what was found, minutes and reasons",
        "how much more may be made", "what was lost and ended", "how doors are", "airlocks", "rows", "what doors know"
    };
    private static final int[] SOME_CARDS = {0, 1, 2, 3, 4, 59};
    private static final int[] SOME_DOORS = {0, 1, 2, 29};
    private static final int[] SOME_ROOMS = {0, 1, 2, 19};

    private final Calls object;
    private final List<String> answers = new ArrayList<>();

    private Probe(Calls object) {
        this.object = object;
    }

    static List<String> of(Calls object, int part) {
        Probe probe = new Probe(object);
        probe.look(part);
        return probe.answers;
    }

    private void look(int part) {
        switch (part) {
            case 0:
                whatIsTold();
                break;
            case 1:
                whoIsWhere();
                break;
            case 2:
                whatWasFound(0);
                break;
            case 3:
                whatWasFound(2);
                break;
            case 4:
                howMuchMoreMayBeMade();
                break;
            case 5:
                each(60, "lost(", ", 0)");
                each(16, "end(", ", 0)");
                break;
            case 6:
                howDoorsAre();
                break;
            case 7:
                airlocks();
                break;
            case 8:
                each(30, "off(", ", false)");
                whatWasFoundFirst();
                each(40, "where(", ")");
                break;
            default:
                whatDoorsKnow();
                break;
        }
    }

    private String ask(String text) {
        String answer = object.call(text);
        answers.add(text + " " + answer);
        return answer;
    }

    /** The call for each number, up to the first one that there is not. */
    private int each(int most, String before, String behind) {
        for (int i = 0; i < most; i++) {
            if (Calls.isThrown(ask(before + i + behind))) {
                return i;
            }
        }
        return most;
    }

    private void whatIsTold() {
        for (String name : new String[] {"now()", "uses()", "fewest()", "against()"}) {
            ask(name);
        }
    }

    private void whoIsWhere() {
        each(40, "where(", ")");
        for (int zone = 0; zone < 10; zone++) {
            int count = Integer.parseInt(ask("inside(" + zone + ")"));
            each(count + 1, "muster(" + zone + ", ", ")");
        }
    }

    private void whatWasFound(int what) {
        int count = each(100, "found(", ", " + what + ")");
        each(count, "found(", ", " + (what + 1) + ")");
    }

    private void whatWasFoundFirst() {
        ask("against()");
        for (int what = 0; what < 4; what++) {
            each(10, "found(", ", " + what + ")");
        }
    }

    private void howMuchMoreMayBeMade() {
        again(21, "room(9)");
        again(31, "door(0, 1)");
        again(41, "person(9)");
        again(61, "card(0, 0)");
        again(17, "right(9, 9, 0, 1, 0)");
    }

    private void again(int most, String text) {
        boolean thrown = false;
        for (int i = 0; i < most && !thrown; i++) {
            thrown = Calls.isThrown(ask(text));
        }
    }

    /** Two states in two minutes tell whether a door was open, and since when. */
    private void howDoorsAre() {
        each(30, "two(", ", false)");
        int now = Integer.parseInt(ask("now()"));
        each(30, "state(", ", true, " + now + ")");
        each(30, "state(", ", false, " + (now + 1) + ")");
    }

    private void airlocks() {
        boolean thrown = false;
        for (int b = 1; b < 30 && !thrown; b++) {
            for (int a = 0; a < b && !thrown; a++) {
                thrown = Calls.isThrown(ask("airlock(" + a + ", " + b + ", false)"));
            }
        }
    }

    private void whatDoorsKnow() {
        asksEverywhere(ask("now()"));
        asksEverywhere("LAST");
    }

    private void asksEverywhere(String minute) {
        for (int door : SOME_DOORS) {
            for (int room : SOME_ROOMS) {
                for (int card : SOME_CARDS) {
                    ask("asks(" + card + ", " + door + ", " + room + ", " + minute + ")");
                }
            }
        }
    }
}
