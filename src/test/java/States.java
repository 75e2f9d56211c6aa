import java.util.function.Consumer;
import java.util.function.ToIntFunction;

/**
 * Compares the states that two runs of calls lead to. Each look is at an object of its own, made anew by the
 * run, so that the history and the slots can be looked at, too, and none is used for more than 512 calls.
 */
final class States {
    private static final int UNDOS = 6;

    private States() { }

    static SoftStairs made(Consumer<SoftStairs> run) {
        SoftStairs x = new SoftStairs();
        run.accept(x);
        return x;
    }

    static String seen(Consumer<SoftStairs> run) {
        return Calls.seen(made(run));
    }

    /** The stairs are the same; the pad, the history and the slots need not be. */
    static void sameStairs(String label, Consumer<SoftStairs> one, Consumer<SoftStairs> other) {
        Check.holds(label + ": the same stairs", seen(one).equals(seen(other)));
    }

    static void differ(String label, Consumer<SoftStairs> one, Consumer<SoftStairs> other) {
        Check.holds(label + ": not the same stairs", !seen(one).equals(seen(other)));
    }

    /** Everything is the same: the stairs, the pad, each state of the history, both slots. */
    static void same(String label, Consumer<SoftStairs> one, Consumer<SoftStairs> other) {
        sameBehind(label, one, other, x -> { });
        for (int number = 1; number <= UNDOS; number++) {
            int undos = number;
            sameBehind(label + ", " + undos + " undone", one, other, x -> undo(x, undos));
        }
        sameBehind(label + ", slot 0", one, other, x -> x.restore(0));
        sameBehind(label + ", slot 1", one, other, x -> x.restore(1));
        sameBehind(label + ", the pad", one, other, SoftStairs::load);
        sameBehind(label + ", later", one, other, x -> x.pass(30));
    }

    private static void sameBehind(String label, Consumer<SoftStairs> one, Consumer<SoftStairs> other,
            Consumer<SoftStairs> last) {
        String first = Calls.all(made(one.andThen(last)));
        String second = Calls.all(made(other.andThen(last)));
        Check.holds(label + ": the same", first.equals(second));
    }

    /** The call answers what is due, and changes nothing. */
    static void unchanged(String label, Consumer<SoftStairs> run, ToIntFunction<SoftStairs> call, int want) {
        Check.due(label, call.applyAsInt(made(run)), want);
        same(label + " changes nothing", run, run.andThen(call::applyAsInt));
    }

    static void undo(SoftStairs x, int number) {
        for (int i = 0; i < number; i++) {
            x.undo();
        }
    }

    /** People, doubts, stops, a rule, both slots, a pad that is a rule, and a full history; the stairs run. */
    static void running(SoftStairs x) {
        x.come(70);
        x.pass(3);
        x.save(0);
        x.stop();
        x.pass(3);
        x.restart();
        x.sense(1, 0, 1);
        Calls.loadRule(x, "a&b|D");
        x.set(SoftStairs.IDLE, 7);
        x.come(90);
        x.save(1);
        x.pass(4);
        x.set(SoftStairs.RAMP, 5);
        x.put(Calls.packed("!c&d"));
    }

    static void stopping(SoftStairs x) {
        running(x);
        x.stop();
        x.pass(1);
    }

    static void stopped(SoftStairs x) {
        stopping(x);
        x.pass(9);
    }
}
