/** Promises 8 to 17: what there is, and what if. */
public final class AnswersTest {
    private AnswersTest() { }

    public static void main(String[] args) {
        of();
        ofSpot();
        ofStop();
        ruleFacts();
        ruleLooks();
        count();
        way();
        emptyIn();
        leastRamp();
        wouldHold();
        fewest();
        nothingChanges();
        Check.end("AnswersTest");
    }

    private static void of() {
        SoftStairs x = new SoftStairs();
        Check.due("nobody", x.of(0, 0), SoftStairs.NO_SUCH);
        Check.due("nobody, bad", x.of(0, 3), SoftStairs.NO_SUCH);
        x.come(80);
        x.pass(2);
        x.come(90);
        x.pass(3);
        int[][] want = {{6 + 12 + 18 + 24 + 30, 80, 5}, {18 + 24 + 30, 90, 3}};
        for (int who = 0; who < 2; who++) {
            for (int what = 0; what < 3; what++) {
                Check.due("of(" + who + ", " + what + ")", x.of(who, what), want[who][what]);
            }
            Check.due("of(" + who + ", 3)", x.of(who, 3), SoftStairs.BAD_VALUE);
            Check.due("of(" + who + ", -1)", x.of(who, -1), SoftStairs.BAD_VALUE);
        }
        Check.due("of(2, 0)", x.of(2, 0), SoftStairs.NO_SUCH);
        Check.due("of(-1, 0)", x.of(-1, 0), SoftStairs.NO_SUCH);
        Check.due("of(MIN, 9)", x.of(Integer.MIN_VALUE, 9), SoftStairs.NO_SUCH);
        Check.due("of(MAX, 9)", x.of(Integer.MAX_VALUE, 9), SoftStairs.NO_SUCH);
        x.come(1);
        Check.due("one who just stepped on", x.of(2, 0), 0);
        Check.due("no ticks", x.of(2, 2), 0);
    }

    private static void ofSpot() {
        SoftStairs x = new SoftStairs();
        x.sense(1, 0, 1);
        x.sense(2, 1, 1);
        x.sense(3, 0, 1);
        x.sense(3, 1, 1);
        Check.due("no tick yet", x.ofSpot(1, 2), 0);
        x.pass(4);
        int[][] want = {{0, 0, 0}, {1, 0, 4}, {0, 1, 4}, {1, 1, 0}};
        for (int spot = 0; spot < 4; spot++) {
            for (int what = 0; what < 3; what++) {
                Check.due("ofSpot(" + spot + ", " + what + ")", x.ofSpot(spot, what), want[spot][what]);
            }
            Check.due("ofSpot(" + spot + ", 3)", x.ofSpot(spot, 3), SoftStairs.BAD_VALUE);
            Check.due("ofSpot(" + spot + ", -1)", x.ofSpot(spot, -1), SoftStairs.BAD_VALUE);
        }
        Check.due("ofSpot(-1, 5)", x.ofSpot(-1, 5), SoftStairs.NO_SUCH);
        Check.due("ofSpot(4, 0)", x.ofSpot(4, 0), SoftStairs.NO_SUCH);
        x.sense(3, 1, 0);
        x.sense(1, 1, 1);
        x.pass(1);
        Check.due("now they disagree", x.ofSpot(3, 2), 1);
        Check.due("now they agree", x.ofSpot(1, 2), 0);
        Check.due("it goes on while stopping and stopped", x.ofSpot(2, 2), 5);
    }

    private static void ofStop() {
        SoftStairs x = new SoftStairs();
        Check.due("none", x.ofStop(0, 0), SoftStairs.NO_SUCH);
        Check.due("none, bad", x.ofStop(0, 7), SoftStairs.NO_SUCH);
        x.come(120);
        x.pass(2);
        x.sense(3, 1, 1);
        x.stop();
        int[] first = {2, 12, 120, 128, 1};
        for (int what = 0; what < 5; what++) {
            Check.due("by hand, " + what, x.ofStop(0, what), first[what]);
        }
        Check.due("ofStop(0, 5)", x.ofStop(0, 5), SoftStairs.BAD_VALUE);
        Check.due("ofStop(0, -1)", x.ofStop(0, -1), SoftStairs.BAD_VALUE);
        Check.due("ofStop(1, 5)", x.ofStop(1, 5), SoftStairs.NO_SUCH);
        Check.due("ofStop(-1, 0)", x.ofStop(-1, 0), SoftStairs.NO_SUCH);
        x.pass(2);
        x.restart();
        x.pass(1);
        x.sense(3, 0, 1);
        x.come(7);
        x.pass(4);
        int[] second = {5, 6, 127, 192, 0};
        for (int what = 0; what < 5; what++) {
            Check.due("by the rule, " + what, x.ofStop(0, what), second[what]);
            Check.due("the one before, " + what, x.ofStop(1, what), first[what]);
        }
        SoftStairs y = new SoftStairs();
        for (int i = 1; i <= 8; i++) {
            y.stop();
            y.pass(i);
            y.restart();
            for (int stop = 0; stop < 9; stop++) {
                int number = i - stop;
                int want = number < 1 || stop > 5 ? SoftStairs.NO_SUCH : number * (number - 1) / 2;
                Check.due("stop " + stop + " of " + i, y.ofStop(stop, 0), want);
            }
        }
        Check.due("all are counted", y.count(7), 8);
        SoftStairs z = new SoftStairs();
        z.come(200);
        z.set(SoftStairs.FULL, 10);
        z.set(SoftStairs.RAMP, 10);
        z.pass(99);
        z.sense(0, 0, 1);
        z.sense(0, 1, 1);
        z.set(SoftStairs.RAMP, 1);
        z.pass(2);
        Check.due("off while stopping", z.count(1), 0);
        Check.due("the load as the stop began", z.ofStop(0, 2), 200);
    }

    private static void facts(String text, int parts, int depth, int letters) {
        SoftStairs x = new SoftStairs();
        Check.due("load " + text, Calls.loadRule(x, text), parts);
        Check.due("parts of " + text, x.rule(0), parts);
        Check.due("depth of " + text, x.rule(1), depth);
        Check.due("letters of " + text, x.rule(3), letters);
        Check.due("rule(5)", x.rule(5), SoftStairs.BAD_VALUE);
        Check.due("rule(-1)", x.rule(-1), SoftStairs.BAD_VALUE);
    }

    private static void ruleFacts() {
        for (int i = 0; i < 4; i++) {
            facts(String.valueOf((char) ('a' + i)), 1, 1, 1 << i);
            facts(String.valueOf((char) ('A' + i)), 1, 1, 16 << i);
        }
        facts("((d))", 1, 1, 8);
        facts("!a", 2, 2, 1);
        facts("!!a", 3, 3, 1);
        facts("a&a", 3, 2, 1);
        facts("a|b|c|d", 7, 4, 15);
        facts("a|(b|(c|d))", 7, 4, 15);
        facts("(a|b)|(c|d)", 7, 3, 15);
        facts("a&b|c&d", 7, 3, 15);
        facts("a|b&c|d", 7, 4, 15);
        facts("!a&b", 4, 3, 3);
        facts("!(a&b)", 4, 3, 3);
        facts("!(A|!(B&C))", 7, 5, 112);
        facts(Calls.times("!", 59) + "D", 60, 60, 128);
        facts(Calls.times("(", 29) + "D" + Calls.times(")", 29), 1, 1, 128);
        facts(Calls.times("a|", 29) + "b", 59, 30, 3);
        facts(Calls.times("!(", 19) + "c" + Calls.times(")", 19), 20, 20, 4);
        facts("a" + Calls.times("&(b", 14) + Calls.times(")", 14), 29, 15, 3);
    }

    private static void looks(String text, int sensors, int holds, int looked) {
        SoftStairs x = Calls.withRule(text);
        Calls.senseAll(x, sensors);
        Check.due(text + " holds at " + sensors, x.rule(2), holds);
        Check.due(text + " looked at, at " + sensors, x.rule(4), looked);
    }

    private static void ruleLooks() {
        looks("a", 0, 0, 1);
        looks("a", 1, 1, 1);
        looks("a", 2, 1, 1);
        looks("A", 2, 0, 1);
        looks("A", 3, 1, 1);
        looks("d", 64, 1, 1);
        looks("D", 192, 1, 1);
        looks("c", 4, 0, 1);
        looks("!b", 0, 1, 2);
        looks("!b", 4, 0, 2);
        looks("a&b", 0, 0, 2);
        looks("a&b", 1, 0, 3);
        looks("a&b", 5, 1, 3);
        looks("a|b", 0, 0, 3);
        looks("a|b", 1, 1, 2);
        looks("a|b", 4, 1, 3);
        looks("a|b&c", 1, 1, 2);
        looks("a|b&c", 4, 0, 5);
        looks("a|b&c", 16, 0, 4);
        looks("(a|b)&c", 1, 0, 4);
        looks("!(a|b)&c", 1, 0, 4);
        looks("!(a|b)&c", 16, 1, 6);
        looks("!a&b", 4, 1, 4);
        looks("!(a&b)", 4, 1, 3);
        looks("a&b|c&d", 0, 0, 5);
        looks("a&b|c&d", 5, 1, 4);
        looks("a&b|c&d", 1 + 16, 0, 7);
        looks("a&(b|c)", 1 + 16, 1, 5);
        looks(Calls.times("!", 59) + "a", 0, 1, 60);
        looks(Calls.times("!", 58) + "a", 0, 0, 59);
    }

    private static void count() {
        SoftStairs x = new SoftStairs();
        Check.due("count(-1)", x.count(-1), SoftStairs.BAD_VALUE);
        Check.due("count(20)", x.count(20), SoftStairs.BAD_VALUE);
        Check.due("count(MIN)", x.count(Integer.MIN_VALUE), SoftStairs.BAD_VALUE);
        Check.due("count(MAX)", x.count(Integer.MAX_VALUE), SoftStairs.BAD_VALUE);
        x.come(30);
        x.come(40);
        x.pass(30);
        x.come(50);
        x.pass(3);
        x.stop();
        x.pass(2);
        x.put(Calls.packed("abc"));
        // 8 ticks up to 48, then 22 at 50: in tick 24 the two are off (at 1016), and 6 empty ones are not yet idle.
        int units = (6 + 12 + 18 + 24 + 30 + 36 + 42 + 48) + 22 * 50 + 3 * 50 + 44 + 38;
        int[] want = {35, 1, 50, 38, 1, 2, 70, 1, 0, units, 6};
        for (int what = 0; what <= 10; what++) {
            Check.due("count(" + what + ")", x.count(what), want[what]);
        }
        Check.due("count(18)", x.count(18), 3);
        Check.due("count(19)", x.count(19), 6);
    }

    private static void way() {
        SoftStairs x = new SoftStairs();
        Check.due("way at the speed 0", x.way(), 0);
        x.pass(9);
        Check.due("way from 50", x.way(), 44 + 38 + 32 + 26 + 20 + 14 + 8 + 2);
        x.stop();
        Check.due("the same while stopping", x.way(), 184);
        x.pass(1);
        Check.due("44 less", x.way(), 140);
        x.pass(7);
        Check.due("still stopping", x.count(4), 1);
        Check.due("nothing left", x.way(), 0);
        x.pass(1);
        Check.due("stopped", x.way(), 0);

        SoftStairs y = new SoftStairs();
        y.set(SoftStairs.HEAVY, 100);
        y.set(SoftStairs.RAMP, 5);
        y.set(SoftStairs.PER, 999);
        y.come(101);
        y.pass(9);
        Check.due("27 at half of 5", y.count(3), 27);
        Check.due("way at half of 5", y.way(), 24 + 21 + 18 + 15 + 12 + 9 + 6 + 3);
        y.pass(17);
        Check.due("close to the end", y.of(0, 0), 908);
        int heavy = 47 + 44 + 41;
        int empty = 36 + 31 + 26 + 21 + 16 + 11 + 6 + 1;
        Check.due("off on the way: the whole ramp behind it", y.way(), heavy + empty);
    }

    private static void emptyIn() {
        SoftStairs x = new SoftStairs();
        Check.due("nobody", x.emptyIn(), 0);
        x.come(10);
        Check.due("from the speed 0", x.emptyIn(), 24);
        for (int left = 23; left >= 1; left--) {
            x.pass(1);
            Check.due("a tick less", x.emptyIn(), left);
        }
        Check.due("still one", x.count(1), 1);
        x.pass(1);
        Check.due("none", x.count(1), 0);
        Check.due("nobody any more", x.emptyIn(), 0);

        SoftStairs y = new SoftStairs();
        y.set(SoftStairs.FULL, 10);
        y.set(SoftStairs.SLOW, 1);
        y.set(SoftStairs.PER, 1);
        y.come(200);
        Check.due("1000 ticks at the speed 1", y.emptyIn(), 1000);
        y.sense(0, 0, 1);
        y.sense(0, 1, 1);
        Check.due("the rule will stop it", y.emptyIn(), SoftStairs.NONE);
        y.pass(1);
        Check.due("stopped", y.count(4), 2);
        Check.due("stopped for ever", y.emptyIn(), SoftStairs.NONE);

        SoftStairs z = new SoftStairs();
        z.set(SoftStairs.FULL, 90);
        z.set(SoftStairs.RAMP, 1);
        z.come(1);
        z.pass(44);
        Check.due("at 990", z.of(0, 0), 990);
        z.stop();
        Check.due("off while stopping", z.emptyIn(), 1);
        z.undo();
        z.undo();
        z.pass(30);
        z.stop();
        Check.due("not off while stopping", z.emptyIn(), SoftStairs.NONE);

        SoftStairs w = new SoftStairs();
        w.set(SoftStairs.RAMP, 30);
        w.sense(1, 1, 1);
        w.come(1);
        Check.due("doubt slows", w.emptyIn(), 5 + 76);

        SoftStairs late = new SoftStairs();
        for (int i = 0; i < 100; i++) {
            late.pass(999);
        }
        late.pass(98);
        late.come(10);
        Check.due("beyond the last tick, too", late.emptyIn(), 1 + (1000 - 16 - 22 - 28 - 34 - 40 - 46) / 50 + 6);
    }

    private static void leastRamp() {
        SoftStairs x = new SoftStairs();
        x.pass(9);
        Check.due("leastRamp(-1)", x.leastRamp(-1), SoftStairs.BAD_VALUE);
        Check.due("leastRamp(10000)", x.leastRamp(10000), SoftStairs.BAD_VALUE);
        Check.due("leastRamp(9999)", x.leastRamp(9999), 1);
        Check.due("50 by 1: 49 * 25", x.leastRamp(1225), 1);
        Check.due("less than that", x.leastRamp(1224), 2);
        Check.due("184 by 6", x.leastRamp(184), 6);
        Check.due("183", x.leastRamp(183), 7);
        Check.due("50 by 30: 20", x.leastRamp(20), 30);
        Check.due("19", x.leastRamp(19), SoftStairs.NONE);
        Check.due("0", x.leastRamp(0), SoftStairs.NONE);
        Check.due("the setting stays", x.count(13), 6);
        x.stop();
        x.pass(20);
        Check.due("stopped", x.leastRamp(0), 1);

        SoftStairs y = new SoftStairs();
        y.set(SoftStairs.FULL, 90);
        y.set(SoftStairs.RAMP, 30);
        y.set(SoftStairs.PER, 999);
        y.pass(3);
        y.set(SoftStairs.HEAVY, 1);
        y.come(2);
        y.pass(10);
        Check.due("at 900", y.of(0, 0), 900);
        int[] ways = new int[31];
        for (int ramp = 1; ramp <= 30; ramp++) {
            y.set(SoftStairs.RAMP, ramp);
            ways[ramp] = y.way();
        }
        for (int units = 0; units <= 3000; units += 20) {
            int want = SoftStairs.NONE;
            for (int ramp = 30; ramp >= 1; ramp--) {
                want = ways[ramp] <= units ? ramp : want;
            }
            Check.due("leastRamp(" + units + ")", y.leastRamp(units), want);
        }
        greaterRampLongerWay();
    }

    /** From 924 units at the speed 90, half of 28 carries one off a tick earlier than half of 29 does. */
    private static void greaterRampLongerWay() {
        SoftStairs x = new SoftStairs();
        x.set(SoftStairs.RAMP, 30);
        x.set(SoftStairs.PER, 999);
        x.come(2);
        int[] full = {24, 30, 60, 90};
        for (int speed : full) {
            x.set(SoftStairs.FULL, speed);
            x.pass(1);
        }
        x.pass(8);
        Check.due("at 924", x.of(0, 0), 924);
        x.set(SoftStairs.HEAVY, 1);
        x.set(SoftStairs.RAMP, 27);
        Check.due("way by 27", x.way(), 76 + 49 + 22);
        x.set(SoftStairs.RAMP, 28);
        Check.due("way by 28", x.way(), 76 + 48 + 20);
        x.set(SoftStairs.RAMP, 29);
        Check.due("way by 29", x.way(), 75 + 60 + 31 + 2);
        x.set(SoftStairs.RAMP, 30);
        Check.due("way by 30", x.way(), 75 + 60 + 30);
        Check.due("leastRamp(147)", x.leastRamp(147), 27);
        Check.due("leastRamp(146)", x.leastRamp(146), 28);
        Check.due("leastRamp(144)", x.leastRamp(144), 28);
        Check.due("leastRamp(143)", x.leastRamp(143), SoftStairs.NONE);
    }

    private static void wouldHold() {
        SoftStairs x = new SoftStairs();
        Check.due("wouldHold(-1)", x.wouldHold(-1), SoftStairs.BAD_VALUE);
        Check.due("wouldHold(256)", x.wouldHold(256), SoftStairs.BAD_VALUE);
        Check.due("wouldHold(MIN)", x.wouldHold(Integer.MIN_VALUE), SoftStairs.BAD_VALUE);
        for (int set = 0; set < 256; set++) {
            boolean pair = (set & 3) == 3 || (set & 12) == 12 || (set & 48) == 48 || (set & 192) == 192;
            Check.due("wouldHold(" + set + ")", x.wouldHold(set), pair ? 1 : 0);
        }
        x.sense(1, 0, 1);
        Check.due("what complains now does not matter", x.wouldHold(8), 0);
        SoftStairs y = Calls.withRule("!(c|D)&b");
        for (int set = 0; set < 256; set++) {
            boolean holds = (set & 48) == 0 && (set & 192) != 192 && (set & 12) != 0;
            Check.due("!(c|D)&b at " + set, y.wouldHold(set), holds ? 1 : 0);
        }
    }

    private static void fewestOf(String text, int want) {
        Check.due("fewest of " + text, Calls.withRule(text).fewest(), want);
    }

    private static void fewest() {
        fewestOf("a", 1);
        fewestOf("d", 64);
        fewestOf("A", 3);
        fewestOf("D", 192);
        fewestOf("D|B", 12);
        fewestOf("A|d", 64);
        fewestOf("A|d|c", 16);
        fewestOf("d&a", 65);
        fewestOf("A&B&C&D", 255);
        fewestOf("!a", 0);
        fewestOf("a&!a", SoftStairs.NONE);
        fewestOf("A&!a", SoftStairs.NONE);
        fewestOf("a&!A|b", 1);
        fewestOf("A&B|c&d", 80);
        fewestOf("A|a", 1);
    }

    private static void nothingChanges() {
        SoftStairs x = Calls.withRule("a&b|D");
        x.come(90);
        x.come(190);
        x.pass(12);
        x.sense(3, 0, 1);
        x.pass(2);
        x.put(Calls.packed("a|"));
        String before = Calls.seen(x);
        int changes = x.count(19);
        x.way();
        x.emptyIn();
        x.leastRamp(3);
        x.leastRamp(9000);
        x.wouldHold(255);
        x.fewest();
        x.fault();
        Check.holds("all is as before", before.equals(Calls.seen(x)));
        Check.due("the pad", x.count(18), 2);
        Check.due("the history", x.count(19), changes);
        x.undo();
        x.undo();
        x.pass(1);
        Check.due("stairs that run go on", x.count(4), 0);
    }
}
