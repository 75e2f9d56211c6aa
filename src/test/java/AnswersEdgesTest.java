import java.util.function.Consumer;
import java.util.function.IntBinaryOperator;
import java.util.function.ToIntFunction;

/** The boundary cases of promises 8 to 17, a test for each sentence. */
public final class AnswersEdgesTest {
    private static final int LOWEST = Integer.MIN_VALUE, HIGHEST = Integer.MAX_VALUE;

    private AnswersEdgesTest() { }

    public static void main(String[] args) {
        nobodyOfThatNumber();
        numbersMoveUp();
        ticksSinceThen();
        noSuchSpot();
        ticksOneAfterTheOther();
        latest6Stops();
        noSuchStop();
        stopAtItsEnds();
        speedAheadOfThisTick();
        partsAndDepth();
        partsLookedAt();
        whatOfRule();
        whatOfCount();
        ticksWithNobody();
        greatestChange();
        padAndHistoryCounted();
        wayIs0();
        wayWhileStopping();
        nobodyToCarry();
        moreThan3000();
        offWhileStopping();
        emptyInAtTheLastTick();
        unitsOutOfRange();
        leastRampFrom1To30();
        sensorsOutOfRange();
        lowestOfTheFewest();
        whatIfChangesNothing();
        Check.end("AnswersEdgesTest");
    }

    private static void all(String call, IntBinaryOperator asked, int first, int[] seconds, int want) {
        for (int second : seconds) {
            Check.due(call + "(" + first + ", " + second + ")", asked.applyAsInt(first, second), want);
        }
    }

    private static void nobodyOfThatNumber() {
        Check.about("of: NO_SUCH if there is nobody of that number; BAD_VALUE if what is out of range");
        int[] whats = {LOWEST, -1, 0, 1, 2, 3, HIGHEST};
        int[] bad = {LOWEST, -1, 3, HIGHEST};
        int[] numbers = {0, 1, 19, 20};
        for (int people : numbers) {
            SoftStairs x = States.made(s -> Calls.come(s, people, 7));
            int[] none = {LOWEST, -1, people, people + 1, 20, HIGHEST};
            for (int who : none) {
                all("of", x::of, who, whats, SoftStairs.NO_SUCH);
            }
            for (int who = 0; who < people; who++) {
                all("of", x::of, who, bad, SoftStairs.BAD_VALUE);
                Check.due("place of " + who, x.of(who, 0), 0);
                Check.due("weight of " + who, x.of(who, 1), 7);
                Check.due("ticks of " + who, x.of(who, 2), 0);
            }
        }
    }

    private static void numbersMoveUp() {
        Check.about("who: 0 for the one who stepped on first, and so on");
        SoftStairs x = new SoftStairs();
        x.come(1);
        x.pass(2);
        x.come(2);
        x.pass(2);
        x.come(3);
        x.pass(19);
        Check.due("one is at 966", x.of(0, 0), 966);
        x.pass(1);
        Check.due("it is off", x.count(1), 2);
        Check.due("the next one is 0", x.of(0, 1), 2);
        Check.due("and the last one 1", x.of(1, 1), 3);
        Check.due("its ticks", x.of(1, 2), 20);
        Check.due("nobody is 2", x.of(2, 1), SoftStairs.NO_SUCH);
    }

    private static void ticksSinceThen() {
        Check.about("2 the ticks since then");
        SoftStairs x = new SoftStairs();
        x.pass(5);
        x.come(1);
        Check.due("at once", x.of(0, 2), 0);
        x.stop();
        x.pass(1);
        Check.due("one tick", x.of(0, 2), 1);
        Calls.passTo(x, 99999);
        Check.due("in tick 99999", x.of(0, 2), 99994);
    }

    private static void noSuchSpot() {
        Check.about("ofSpot: NO_SUCH if there is no such spot; BAD_VALUE if what is out of range");
        SoftStairs x = new SoftStairs();
        Calls.senseAll(x, 255);
        int[] whats = {LOWEST, -1, 0, 1, 2, 3, HIGHEST};
        int[] bad = {LOWEST, -1, 3, HIGHEST};
        int[] none = {LOWEST, -1, 4, 5, HIGHEST};
        for (int spot : none) {
            all("ofSpot", x::ofSpot, spot, whats, SoftStairs.NO_SUCH);
        }
        for (int spot = 0; spot < 4; spot++) {
            all("ofSpot", x::ofSpot, spot, bad, SoftStairs.BAD_VALUE);
            Check.due("sensor 0 of " + spot, x.ofSpot(spot, 0), 1);
            Check.due("sensor 1 of " + spot, x.ofSpot(spot, 1), 1);
            Check.due("ticks of " + spot, x.ofSpot(spot, 2), 0);
        }
    }

    private static void ticksOneAfterTheOther() {
        Check.about("ticks that passed so, one after the other, up to the latest one (sense() alone changes "
            + "nothing of that)");
        SoftStairs x = new SoftStairs();
        x.sense(3, 1, 1);
        Check.due("no tick", x.ofSpot(3, 2), 0);
        x.pass(1);
        Check.due("one", x.ofSpot(3, 2), 1);
        x.pass(2);
        Check.due("three", x.ofSpot(3, 2), 3);
        x.sense(3, 1, 0);
        Check.due("three up to the latest one", x.ofSpot(3, 2), 3);
        x.sense(3, 1, 1);
        x.pass(1);
        Check.due("no tick was between them", x.ofSpot(3, 2), 4);
        x.sense(3, 1, 0);
        x.pass(1);
        Check.due("a tick in which they agree", x.ofSpot(3, 2), 0);
        x.sense(3, 0, 1);
        x.pass(1);
        Check.due("from the start", x.ofSpot(3, 2), 1);
        x.stop();
        x.pass(999);
        Check.due("while the stairs have stopped, too", x.ofSpot(3, 2), 1000);
    }

    private static void latest6Stops() {
        Check.about("the latest 6 are kept");
        SoftStairs x = new SoftStairs();
        for (int number = 1; number <= 14; number++) {
            x.come(number);
            x.stop();
            x.pass(1);
            x.restart();
            int kept = Math.min(6, number);
            for (int stop = 0; stop < kept; stop++) {
                int which = number - stop;
                Check.due("tick of stop " + stop + " of " + number, x.ofStop(stop, 0), which - 1);
                Check.due("load of stop " + stop + " of " + number, x.ofStop(stop, 2), which * (which + 1) / 2);
            }
            Check.due("stop " + kept + " of " + number, x.ofStop(kept, 0), SoftStairs.NO_SUCH);
            Check.due("stops so far", x.count(7), number);
        }
    }

    private static void noSuchStop() {
        Check.about("ofStop: NO_SUCH if there is no such stop; BAD_VALUE if what is out of range");
        int[] whats = {LOWEST, -1, 0, 4, 5, HIGHEST};
        int[] bad = {LOWEST, -1, 5, HIGHEST};
        for (int stops = 0; stops <= 7; stops++) {
            SoftStairs x = new SoftStairs();
            for (int i = 0; i < stops; i++) {
                x.stop();
                x.pass(1);
                x.restart();
            }
            int kept = Math.min(6, stops);
            int[] none = {LOWEST, -1, kept, kept + 1, 6, 7, HIGHEST};
            for (int stop : none) {
                all("ofStop", x::ofStop, stop, whats, SoftStairs.NO_SUCH);
            }
            for (int stop = 0; stop < kept; stop++) {
                all("ofStop", x::ofStop, stop, bad, SoftStairs.BAD_VALUE);
                Check.due("by hand " + stop, x.ofStop(stop, 4), 1);
            }
        }
    }

    private static void facts(SoftStairs x, int[] want) {
        for (int what = 0; what < 5; what++) {
            Check.due("ofStop(0, " + what + ")", x.ofStop(0, what), want[what]);
        }
    }

    private static void stopAtItsEnds() {
        Check.about("0 the tick in which it began, 1 the speed then, 2 the load then, 3 the sensors that "
            + "complained, as a set, 4 whether it was by hand");
        SoftStairs nothing = new SoftStairs();
        nothing.stop();
        facts(nothing, new int[] {0, 0, 0, 0, 1});
        SoftStairs all = new SoftStairs();
        Calls.passTo(all, 99998);
        Calls.come(all, 20, 200);
        Calls.senseAll(all, 255);
        all.pass(1);
        facts(all, new int[] {99998, 10, 4000, 255, 0});
        for (int bit = 0; bit < 8; bit++) {
            SoftStairs x = new SoftStairs();
            x.sense(bit / 2, bit % 2, 1);
            x.stop();
            x.sense(bit / 2, bit % 2, 0);
            x.come(9);
            facts(x, new int[] {0, 0, 0, 1 << bit, 1});
        }
    }

    private static void speedAheadOfThisTick() {
        Check.about("1 the speed then (as it was ahead of this tick)");
        SoftStairs x = new SoftStairs();
        x.pass(9);
        Calls.senseAll(x, 12);
        x.pass(3);
        facts(x, new int[] {9, 50, 0, 12, 0});
        Check.due("speed now", x.count(3), 32);
    }

    private static void ruleIs(String text, int parts, int depth, int letters) {
        SoftStairs x = Calls.withRule(text);
        Check.due("parts of " + text, x.rule(0), parts);
        Check.due("depth of " + text, x.rule(1), depth);
        Check.due("letters of " + text, x.rule(3), letters);
    }

    private static void partsAndDepth() {
        Check.about("0 its parts (each letter, each \"!\", \"&\" and \"|\" is one), 1 how deep it is, 3 its "
            + "letters, as a set");
        ruleIs("a", 1, 1, 1);
        ruleIs("(a)", 1, 1, 1);
        ruleIs("!D", 2, 2, 128);
        ruleIs("b&C", 3, 2, 66);
        ruleIs("a|b|c|d|A|B|C|D", 15, 8, 255);
        ruleIs("a&a&a&a", 7, 4, 1);
        ruleIs("!!(a|b)&c", 7, 5, 7);
        ruleIs("c&!!(a|b)", 7, 5, 7);
        ruleIs("!a|!!b", 6, 4, 3);
        ruleIs("!!b|!a", 6, 4, 3);
        ruleIs(Calls.times("!", 59) + "a", 60, 60, 1);
        ruleIs(Calls.times("d&", 29) + "!d", 60, 30, 8);
        ruleIs(Calls.times("!(", 19) + "B|c" + Calls.times(")", 19), 22, 21, 36);
    }

    private static void partsLookedAt() {
        Check.about("4 how many of its parts are looked at (\"&\" does not look at its second part if the first "
            + "one does not hold, \"|\" does not if the first one holds)");
        int[] sets = {0, 1, 4, 5};
        int[] and = {2, 3, 2, 3};
        int[] or = {3, 2, 3, 2};
        for (int i = 0; i < 4; i++) {
            Check.due("a&b in " + sets[i], looked("a&b", sets[i]), and[i]);
            Check.due("a|b in " + sets[i], looked("a|b", sets[i]), or[i]);
            Check.due("(a&b)|!(a&b) in " + sets[i], looked("(a&b)|!(a&b)", sets[i]), and[i] + (i == 3 ? 1 : 2 + and[i]));
        }
        Check.due("a alone", looked("a", 0), 1);
        Check.due("none of the first 29 holds", looked(Calls.times("a|", 29) + "a", 4), 59);
        Check.due("the first of 30 holds", looked(Calls.times("a|", 29) + "a", 1), 30);
        Check.due("all 30 hold", looked(Calls.times("a&", 29) + "a", 1), 59);
        Check.due("all 60", looked(Calls.times("!", 59) + "a", 1), 60);
        Check.due("at first, nothing complains", new SoftStairs().rule(4), 7);
    }

    private static int looked(String text, int sensors) {
        SoftStairs x = Calls.withRule(text);
        Calls.senseAll(x, sensors);
        return x.rule(4);
    }

    private static void whatOfRule() {
        Check.about("rule: BAD_VALUE if what is out of range");
        SoftStairs x = new SoftStairs();
        int[] bad = {LOWEST, -2, -1, 5, 6, HIGHEST};
        for (int what : bad) {
            Check.due("rule(" + what + ")", x.rule(what), SoftStairs.BAD_VALUE);
        }
        int[] want = {7, 4, 0, 240, 7};
        for (int what = 0; what < 5; what++) {
            Check.due("rule(" + what + ")", x.rule(what), want[what]);
        }
        Calls.senseAll(x, 192);
        Check.due("it holds", x.rule(2), 1);
    }

    private static void whatOfCount() {
        Check.about("count: BAD_VALUE if what is out of range");
        SoftStairs x = new SoftStairs();
        int[] bad = {LOWEST, -2, -1, 20, 21, HIGHEST};
        for (int what : bad) {
            Check.due("count(" + what + ")", x.count(what), SoftStairs.BAD_VALUE);
        }
        for (int setting = 0; setting < 7; setting++) {
            x.set(setting, 11 + setting);
        }
        for (int what = 11; what <= 17; what++) {
            Check.due("count(" + what + ")", x.count(what), what);
        }
    }

    private static void ticksWithNobody() {
        Check.about("8 ticks that passed, one after the other, up to the latest one, with nobody on the stairs (behind it)");
        SoftStairs x = new SoftStairs();
        x.pass(1);
        Check.due("one tick", x.count(8), 1);
        x.pass(999);
        Check.due("1000 ticks", x.count(8), 1000);
        x.come(1);
        Check.due("up to the latest one", x.count(8), 1000);
        x.pass(1);
        Check.due("somebody is there", x.count(8), 0);
        x.pass(21);
        Check.due("still there, at 986", x.of(0, 0), 986);
        Check.due("not one of these ticks", x.count(8), 0);
        x.pass(1);
        Check.due("off: nobody behind this tick", x.count(8), 1);
        x.stop();
        x.pass(30);
        Check.due("while they stop and have stopped, too", x.count(8), 31);
    }

    private static void greatestChange() {
        Check.about("10 the greatest change of the speed in a tick so far");
        SoftStairs x = new SoftStairs();
        x.stop();
        x.pass(2);
        Check.due("none", x.count(10), 0);
        x.restart();
        x.pass(9);
        Check.due("six times up, then two", x.count(10), 6);
        x.set(SoftStairs.RAMP, 30);
        x.pass(1);
        Check.due("no change in this tick", x.count(10), 6);
        x.stop();
        x.pass(1);
        Check.due("30 down", x.count(10), 30);
        x.set(SoftStairs.RAMP, 1);
        x.pass(1);
        Check.due("the greatest stays", x.count(10), 30);
    }

    private static void padAndHistoryCounted() {
        Check.about("18 the length of the pad, 19 how many changes can be undone");
        SoftStairs x = new SoftStairs();
        Calls.write(x, Calls.times("a", 60));
        Check.due("full", x.count(18), 60);
        x.wipe();
        Check.due("empty", x.count(18), 0);
        for (int i = 1; i <= 8; i++) {
            x.come(1);
            Check.due("behind " + i + " changes", x.count(19), Math.min(6, i));
        }
        States.undo(x, 7);
        Check.due("none any more", x.count(19), 0);
    }

    private static void wayIs0() {
        Check.about("Returns the units (0 if they have stopped)");
        for (int speed = 6; speed <= 7; speed++) {
            int full = speed;
            SoftStairs x = States.made(s -> slow(s, full));
            Check.due("speed", x.count(3), speed);
            Check.due("way from " + speed + " by 6", x.way(), speed - 6);
            x.stop();
            Check.due("stopping", x.way(), speed - 6);
            x.pass(2);
            Check.due("stopped", x.way(), 0);
        }
        Check.due("from 90 by 1: 89 * 45", States.made(AnswersEdgesTest::fast).way(), 4005);
    }

    /** The stairs run with a speed below FULL's range: each kilogram takes one. */
    private static void slow(SoftStairs x, int speed) {
        x.set(SoftStairs.FULL, 10);
        x.set(SoftStairs.SLOW, 1);
        x.set(SoftStairs.PER, 1);
        x.come(10 - speed);
        x.pass(9);
    }

    private static void fast(SoftStairs x) {
        x.set(SoftStairs.FULL, 90);
        x.pass(15);
        x.set(SoftStairs.RAMP, 1);
    }

    private static void wayWhileStopping() {
        Check.about("if they were stopped now (or are stopping), and nobody came");
        SoftStairs x = States.made(AnswersEdgesTest::fast);
        x.stop();
        int way = 4005;
        for (int speed = 89; speed >= 0; speed--) {
            Check.due("way at " + (speed + 1), x.way(), way);
            x.pass(1);
            way -= speed;
        }
        Check.due("stopped", x.count(4), 2);
        Check.due("nothing left", x.way(), 0);
    }

    private static void nobodyToCarry() {
        Check.about("emptyIn: 0 if nobody is on the stairs");
        Check.due("running", new SoftStairs().emptyIn(), 0);
        SoftStairs x = new SoftStairs();
        x.pass(9);
        x.stop();
        x.pass(1);
        Check.due("stopping", x.emptyIn(), 0);
        x.pass(9);
        Check.due("stopped", x.emptyIn(), 0);
        Calls.senseAll(x, 3);
        Check.due("the rule holds", x.emptyIn(), 0);
    }

    private static void moreThan3000() {
        Check.about("Tells in how many ticks all would be off, if only time passes; NONE if it takes more than 3000");
        SoftStairs x = new SoftStairs();
        x.set(SoftStairs.FULL, 10);
        x.set(SoftStairs.SLOW, 1);
        x.set(SoftStairs.PER, 1);
        x.come(200);
        Check.due("1000 ticks by 1: the longest while they run", x.emptyIn(), 1000);
        x.pass(999);
        Check.due("the last tick", x.emptyIn(), 1);
        x.come(1);
        Check.due("by 1, by 7, and 111 times by 9", x.emptyIn(), 113);
        Calls.senseAll(x, 12);
        Check.due("the rule stops them", x.emptyIn(), SoftStairs.NONE);
        Check.due("they do not stop by being asked", x.count(4), 0);
        SoftStairs y = new SoftStairs();
        y.come(1);
        y.stop();
        Check.due("stopping", y.emptyIn(), SoftStairs.NONE);
        y.pass(1);
        Check.due("stopped", y.emptyIn(), SoftStairs.NONE);
        y.restart();
        Check.due("running again", y.emptyIn(), 24);
    }

    /** One comes to 10, goes on by 19 or 20, and then 48 times by 20: 989 or 990. */
    private static SoftStairs stoppedBehind(int second) {
        SoftStairs x = new SoftStairs();
        x.set(SoftStairs.RAMP, 10);
        x.set(SoftStairs.FULL, second);
        x.come(1);
        x.pass(2);
        x.set(SoftStairs.FULL, 20);
        x.pass(48);
        x.stop();
        return x;
    }

    private static void offWhileStopping() {
        Check.about("Tells in how many ticks all would be off, if only time passes");
        Check.due("990 and 10: off in the next tick", stoppedBehind(20).emptyIn(), 1);
        Check.due("989 and 10: at 999 for ever", stoppedBehind(19).emptyIn(), SoftStairs.NONE);
    }

    private static void emptyInAtTheLastTick() {
        Check.about("Tells in how many ticks all would be off (also if pass() could not go so far)");
        SoftStairs x = States.made(s -> Calls.passTo(s, 99999));
        x.come(1);
        // From the speed 10: 16 to 46 are 186, and 16 times 50 are 800 more; the 23rd tick comes to 1036.
        Check.due("in tick 99999", x.emptyIn(), 23);
    }

    private static void unitsOutOfRange() {
        Check.about("leastRamp: BAD_VALUE if units is out of range (0 to 9999)");
        SoftStairs x = States.made(AnswersEdgesTest::fast);
        int[] bad = {LOWEST, -2, -1, 10000, 10001, HIGHEST};
        for (int units : bad) {
            Check.due("leastRamp(" + units + ")", x.leastRamp(units), SoftStairs.BAD_VALUE);
        }
        Check.due("leastRamp(9999)", x.leastRamp(9999), 1);
        Check.due("leastRamp(0)", x.leastRamp(0), SoftStairs.NONE);
        Check.due("leastRamp(0), new", new SoftStairs().leastRamp(0), 1);
    }

    private static void leastRampFrom1To30() {
        Check.about("Finds the least RAMP, 1 to 30, with which way() would be no more than told; NONE if there is none");
        SoftStairs x = States.made(AnswersEdgesTest::fast);
        Check.due("4005 by 1", x.leastRamp(4005), 1);
        Check.due("4004", x.leastRamp(4004), 2);
        Check.due("60 and 30 by 30", x.leastRamp(90), 30);
        Check.due("61 and 32 and 3 by 29", x.leastRamp(96), 29);
        Check.due("95", x.leastRamp(95), 30);
        Check.due("89", x.leastRamp(89), SoftStairs.NONE);
        Check.due("RAMP stays", x.count(13), 1);
        SoftStairs y = States.made(s -> slow(s, 7));
        Check.due("7 by 7", y.leastRamp(0), 7);
        Check.due("7 by 6: 1", y.leastRamp(1), 6);
        y.stop();
        Check.due("stopping", y.leastRamp(0), 7);
        y.pass(2);
        Check.due("stopped", y.leastRamp(0), 1);
    }

    private static void sensorsOutOfRange() {
        Check.about("wouldHold: BAD_VALUE if sensors is out of range (0 to 255)");
        SoftStairs x = Calls.withRule("a&d");
        int[] bad = {LOWEST, -2, -1, 256, 257, 1 << 16, HIGHEST};
        for (int sensors : bad) {
            Check.due("wouldHold(" + sensors + ")", x.wouldHold(sensors), SoftStairs.BAD_VALUE);
        }
        Check.due("wouldHold(0)", x.wouldHold(0), 0);
        Check.due("wouldHold(255)", x.wouldHold(255), 1);
        Calls.senseAll(x, 255);
        Check.due("what complains does not count", x.wouldHold(0), 0);
    }

    private static void lowestOfTheFewest() {
        Check.about("the fewest sensors that would let the rule hold if just these complained, of several sets "
            + "the lowest one; NONE if there is none");
        String[] rules = {"!a", "a|!a", "a", "d", "A", "D", "d|a", "A|d", "D|A", "A|a&b", "A&!a", "a&!a",
            "A&B&C&D", "!(A&B&C&D)", "b&c&d", "d&(B|C)", "a&!A", "b&!A|A&!b"};
        int[] sets = {0, 0, 1, 64, 3, 192, 1, 64, 3, 3, SoftStairs.NONE, SoftStairs.NONE,
            255, 0, 84, 76, 1, 4};
        for (int i = 0; i < rules.length; i++) {
            SoftStairs x = Calls.withRule(rules[i]);
            Check.due("fewest of " + rules[i], x.fewest(), sets[i]);
            Calls.senseAll(x, 255);
            Check.due("what complains does not count", x.fewest(), sets[i]);
        }
        Check.due("at first", new SoftStairs().fewest(), 3);
    }

    private static void asked(String call, ToIntFunction<SoftStairs> question) {
        Consumer<SoftStairs> ask = question::applyAsInt;
        States.same(call + ", running", States::running, ((Consumer<SoftStairs>) States::running).andThen(ask));
        States.same(call + ", stopping", States::stopping, ((Consumer<SoftStairs>) States::stopping).andThen(ask));
        States.same(call + ", stopped", States::stopped, ((Consumer<SoftStairs>) States::stopped).andThen(ask));
    }

    private static void whatIfChangesNothing() {
        Check.about("what there is; what if; nothing changes");
        asked("of", x -> x.of(0, 0));
        asked("ofSpot", x -> x.ofSpot(1, 2));
        asked("ofStop", x -> x.ofStop(0, 3));
        asked("rule", x -> x.rule(4));
        asked("count", x -> x.count(9));
        asked("way", SoftStairs::way);
        asked("emptyIn", SoftStairs::emptyIn);
        asked("leastRamp", x -> x.leastRamp(3));
        asked("leastRamp, none", x -> x.leastRamp(0));
        asked("wouldHold", x -> x.wouldHold(255));
        asked("fewest", SoftStairs::fewest);
        asked("fault", SoftStairs::fault);
    }
}
