/** Long runs of mixed calls: each answer is that of the model. The runs are the same each time. */
public final class ModelTest {
    private static final int RUNS = 1500;
    private static final int CALLS = 512;
    private static final int LONGEST_STEP = 40;

    private long seed;
    private final SoftStairs x = new SoftStairs();
    private final Model model = new Model();
    private final int run;
    private int made;

    private ModelTest(int run) {
        this.run = run;
        seed = run * 7919L + 17;
    }

    public static void main(String[] args) {
        for (int run = 0; run < RUNS; run++) {
            ModelTest test = new ModelTest(run);
            while (test.made <= CALLS - LONGEST_STEP) {
                test.step();
            }
            while (test.made < CALLS) {
                test.stepLast();
            }
        }
        Check.end("ModelTest");
    }

    private int below(int bound) {
        seed = seed * 6364136223846793005L + 1442695040888963407L;
        return (int) ((seed >>> 33) % bound);
    }

    private int between(int least, int greatest) {
        return least + below(greatest - least + 1);
    }

    /** Mostly a number of the range; now and then one just outside, or far outside. */
    private int around(int least, int greatest) {
        switch (below(40)) {
            case 0: return least - 1;
            case 1: return greatest + 1;
            case 2: return below(2) == 0 ? Integer.MIN_VALUE : Integer.MAX_VALUE;
            case 3: return least;
            case 4: return greatest;
            default: return between(least, greatest);
        }
    }

    private void due(String call, long got, long want) {
        made++;
        Check.due("run " + run + ", call " + made + ", " + call, got, want);
    }

    private void step() {
        switch (below(18)) {
            case 0: stepSet(); break;
            case 1:
            case 2: stepCome(); break;
            case 3:
            case 4: stepSense(); break;
            case 5: stepStop(); break;
            case 6: stepRestart(); break;
            case 7:
            case 8: stepPass(); break;
            case 9:
            case 10: stepAsk(); break;
            case 11:
            case 12: stepWhatIf(); break;
            case 13: stepText(); break;
            case 14: stepRule(); break;
            case 15: stepUndo(); break;
            case 16: stepSlot(); break;
            default: stepLook(); break;
        }
    }

    private void stepSet() {
        int[] least = {10, 1, 1, 1, 1, 1, 1};
        int[] greatest = {90, 40, 30, 99, 99, 999, 9999};
        int setting = around(0, 6);
        int of = setting < 0 || setting > 6 ? 0 : setting;
        int most = below(2) == 0 ? Math.min(greatest[of], of == 6 ? 600 : 12) : greatest[of];
        int value = around(least[of], most);
        due("set(" + setting + ", " + value + ")", x.set(setting, value), model.set(setting, value));
    }

    private void stepCome() {
        int number = below(8) == 0 ? 12 : 2;
        for (int i = 0; i < number; i++) {
            int weight = around(1, 200);
            due("come(" + weight + ")", x.come(weight), model.come(weight));
        }
    }

    private void stepSense() {
        int spot = around(0, 3);
        int sensor = around(0, 1);
        int on = around(0, 1);
        due("sense(" + spot + ", " + sensor + ", " + on + ")", x.sense(spot, sensor, on), model.sense(spot, sensor, on));
        if (below(3) == 0) {
            due("sense(" + spot + ", 0, 0)", x.sense(spot, 0, 0), model.sense(spot, 0, 0));
            due("sense(" + spot + ", 1, 0)", x.sense(spot, 1, 0), model.sense(spot, 1, 0));
        }
    }

    private void stepStop() {
        if (below(3) == 0) {
            due("stop()", x.stop(), model.stop());
        }
    }

    private void stepRestart() {
        due("restart()", x.restart(), model.restart());
    }

    private void stepPass() {
        int most = below(20) == 0 ? 999 : below(3) == 0 ? 60 : 8;
        int ticks = below(6) == 0 ? around(1, 999) : between(1, most);
        ticks = run % 50 == 0 ? 999 - below(2) * below(999) : ticks;
        int number = run % 50 == 0 ? 4 : 1;
        for (int i = 0; i < number; i++) {
            due("pass(" + ticks + ")", x.pass(ticks), model.pass(ticks));
        }
    }

    private void stepAsk() {
        int who = around(0, 19);
        int spot = around(0, 3);
        int stop = around(0, 5);
        int what = around(0, 4);
        due("of(" + who + ", " + what + ")", x.of(who, what), model.of(who, what));
        due("ofSpot(" + spot + ", " + what + ")", x.ofSpot(spot, what), model.ofSpot(spot, what));
        due("ofStop(" + stop + ", " + what + ")", x.ofStop(stop, what), model.ofStop(stop, what));
        due("rule(" + what + ")", x.rule(what), model.rule(what));
    }

    private void stepWhatIf() {
        int way = model.way();
        due("way()", x.way(), way);
        due("emptyIn()", x.emptyIn(), model.emptyIn());
        int units = below(3) == 0 ? around(0, 9999) : Math.max(0, way / 2 + below(way + 2));
        due("leastRamp(" + units + ")", x.leastRamp(units), model.leastRamp(units));
        int sensors = around(0, 255);
        due("wouldHold(" + sensors + ")", x.wouldHold(sensors), model.wouldHold(sensors));
        due("fewest()", x.fewest(), model.fewest());
    }

    private void stepText() {
        String text = "";
        int length = between(0, 9);
        String signs = below(10) == 0 ? "ae(D~|" : "abAB&|!()cCd";
        for (int i = 0; i < length; i++) {
            text += signs.charAt(below(signs.length()));
        }
        long number = Calls.packed(text);
        number = below(12) == 0 ? number ^ 255L << 8 * below(8) : number;
        number = below(12) == 0 ? number & ~(255L << 8 * below(8)) : number;
        due("put(" + number + ")", x.put(number), model.put(number));
        due("fault()", x.fault(), model.fault());
        if (below(3) == 0) {
            due("load()", x.load(), model.load());
        }
        if (below(4) == 0) {
            due("wipe()", x.wipe(), model.wipe());
        }
    }

    private String ruleText(int depth) {
        switch (depth == 0 ? below(2) : below(8)) {
            case 0: return String.valueOf("abcd".charAt(below(4)));
            case 1: return String.valueOf("ABCD".charAt(below(4)));
            case 2: return "!" + ruleText(depth - 1);
            case 3: return "(" + ruleText(depth - 1) + ")";
            case 4:
            case 5: return ruleText(depth - 1) + "&" + ruleText(depth - 1);
            default: return ruleText(depth - 1) + "|" + ruleText(depth - 1);
        }
    }

    private void stepRule() {
        due("wipe()", x.wipe(), model.wipe());
        String text = ruleText(between(0, 6));
        for (int i = 0; i < text.length(); i += 8) {
            long number = Calls.packed(text.substring(i, Math.min(text.length(), i + 8)));
            due("put(" + number + ")", x.put(number), model.put(number));
        }
        due("fault()", x.fault(), model.fault());
        due("load()", x.load(), model.load());
        for (int what = 0; what < 5; what++) {
            due("rule(" + what + ")", x.rule(what), model.rule(what));
        }
        due("fewest()", x.fewest(), model.fewest());
    }

    private void stepUndo() {
        int number = below(4) == 0 ? between(1, 8) : below(2);
        for (int i = 0; i < number; i++) {
            due("undo()", x.undo(), model.undo());
        }
    }

    private void stepSlot() {
        int slot = around(0, 1);
        if (below(2) == 0) {
            due("save(" + slot + ")", x.save(slot), model.save(slot));
        } else if (below(2) == 0) {
            due("restore(" + slot + ")", x.restore(slot), model.restore(slot));
        }
    }

    private void stepLook() {
        for (int what = -1; what <= 20; what++) {
            due("count(" + what + ")", x.count(what), model.count(what));
        }
    }

    /** One call: so the last one is call 512. */
    private void stepLast() {
        int what = below(20);
        if (what == 0) {
            due("pass(7)", x.pass(7), model.pass(7));
        } else {
            due("count(" + what + ")", x.count(what), model.count(what));
        }
    }
}
