import java.util.ArrayList;
import java.util.List;
import java.util.function.IntFunction;
import java.util.function.IntUnaryOperator;

/**
 * A run of calls on a new object, each with the answer that is due. A call that must throw, and a card
 * that must be refused, is also shown to have changed nothing: an object that was called so and one
 * that was not are probed, and must answer alike.
 */
final class Run {
    private final Check check;
    private final String name;
    private final Calls live = new Calls();
    private final List<String> all = new ArrayList<>();
    /** The calls of all that changed something, or might have. */
    private final List<String> kept = new ArrayList<>();

    Run(Check check, String name) {
        this.check = check;
        this.name = name;
    }

    /** Calls that lead to where something is tested: they must not throw. */
    Run told(String... calls) {
        for (String call : calls) {
            String answer = keep(call);
            check.tell(name + ": " + call, Calls.isThrown(answer) ? answer : "an answer", "an answer");
        }
        return this;
    }

    Run is(String call, int due) {
        check.tell(name + ": " + call, keep(call), Integer.toString(due));
        return this;
    }

    Run is(String call, boolean due) {
        check.tell(name + ": " + call, keep(call), Boolean.toString(due));
        return this;
    }

    Run times(int count, IntFunction<String> call, IntUnaryOperator due) {
        for (int i = 0; i < count; i++) {
            is(call.apply(i), due.applyAsInt(i));
        }
        return this;
    }

    Run argument(String... calls) {
        for (String call : calls) {
            changesNothing(call, "throws.IllegalArgumentException");
        }
        return this;
    }

    Run state(String... calls) {
        for (String call : calls) {
            changesNothing(call, "throws.IllegalStateException");
        }
        return this;
    }

    /** The call must tell the minute that is NOW already, so that there is nothing at all that it may change. */
    Run refuses(int why, String call) {
        Object[] arguments = Calls.argumentsOf(call);
        check.tell(name + ": NOW before " + call, live.call("now()"), String.valueOf(arguments[arguments.length - 1]));
        changesNothing(call, Integer.toString(why));
        return this;
    }

    /** How many calls the object has had: for runs that go to the last promised one. */
    Run hadCalls(int due) {
        check.is(name + ": calls of this run", live.done(), due);
        return this;
    }

    private String keep(String call) {
        all.add(call);
        kept.add(call);
        return live.call(call);
    }

    private void changesNothing(String call, String due) {
        check.tell(name + ": " + call, live.call(call), due);
        all.add(call);
        for (int part = 0; part < Probe.PARTS.length; part++) {
            String touched = Probe.of(after(all), part).toString();
            String untouched = Probe.of(after(kept), part).toString();
            check.tell(name + ": behind " + call + ", " + Probe.PARTS[part] + ",", touched, untouched);
        }
    }

    private static Calls after(List<String> calls) {
        Calls object = new Calls();
        for (String call : calls) {
            object.call(call);
        }
        return object;
    }
}
