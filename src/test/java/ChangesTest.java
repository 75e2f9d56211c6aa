/** Promises 1 to 7: a new object, and the calls that change the stairs. */
public final class ChangesTest {
    private ChangesTest() { }

    public static void main(String[] args) {
        newObject();
        set();
        setTakesEffect();
        come();
        sense();
        stop();
        restart();
        pass();
        speedFollowsLoad();
        speedChangesByRamp();
        slowWhenEmpty();
        slowInDoubt();
        peopleAreCarriedOff();
        ruleStops();
        Check.end("ChangesTest");
    }

    private static void newObject() {
        SoftStairs x = new SoftStairs();
        for (int what = 0; what <= 10; what++) {
            Check.due("new: count(" + what + ")", x.count(what), 0);
        }
        int[] settings = {50, 10, 6, 20, 5, 100, 800};
        for (int i = 0; i < 7; i++) {
            Check.due("new: count(" + (11 + i) + ")", x.count(11 + i), settings[i]);
        }
        Check.due("new: count(18)", x.count(18), 0);
        Check.due("new: count(19)", x.count(19), 0);
        for (int spot = 0; spot < 4; spot++) {
            for (int what = 0; what < 3; what++) {
                Check.due("new: ofSpot(" + spot + ", " + what + ")", x.ofSpot(spot, what), 0);
            }
        }
        int[] rule = {7, 4, 0, 240, 7};
        for (int what = 0; what < 5; what++) {
            Check.due("new: rule(" + what + ")", x.rule(what), rule[what]);
        }
    }

    private static void set() {
        int[] least = {10, 1, 1, 1, 1, 1, 1};
        int[] first = {50, 10, 6, 20, 5, 100, 800};
        int[] greatest = {90, 40, 30, 99, 99, 999, 9999};
        for (int i = 0; i < 7; i++) {
            SoftStairs x = new SoftStairs();
            Check.due("set too low " + i, x.set(i, least[i] - 1), SoftStairs.BAD_VALUE);
            Check.due("set too high " + i, x.set(i, greatest[i] + 1), SoftStairs.BAD_VALUE);
            Check.due("set lowest int " + i, x.set(i, Integer.MIN_VALUE), SoftStairs.BAD_VALUE);
            Check.due("set highest int " + i, x.set(i, Integer.MAX_VALUE), SoftStairs.BAD_VALUE);
            Check.due("not a change " + i, x.count(19), 0);
            Check.due("set least " + i, x.set(i, least[i]), first[i]);
            Check.due("is least " + i, x.count(11 + i), least[i]);
            Check.due("set greatest " + i, x.set(i, greatest[i]), least[i]);
            Check.due("set greatest again " + i, x.set(i, greatest[i]), greatest[i]);
            Check.due("three changes " + i, x.count(19), 3);
            for (int j = 0; j < 7; j++) {
                Check.due("the other " + j, x.count(11 + j), j == i ? greatest[i] : first[j]);
            }
        }
        SoftStairs x = new SoftStairs();
        Check.due("set(-1, 20)", x.set(-1, 20), SoftStairs.BAD_VALUE);
        Check.due("set(7, 20)", x.set(7, 20), SoftStairs.BAD_VALUE);
        Check.due("set(MIN, 20)", x.set(Integer.MIN_VALUE, 20), SoftStairs.BAD_VALUE);
        Check.due("set(MAX, 20)", x.set(Integer.MAX_VALUE, 20), SoftStairs.BAD_VALUE);
    }

    private static void setTakesEffect() {
        SoftStairs x = new SoftStairs();
        x.set(SoftStairs.SLOW, 40);
        x.set(SoftStairs.FULL, 10);
        x.set(SoftStairs.RAMP, 30);
        x.pass(5);
        Check.due("SLOW above FULL", x.count(3), 40);
    }

    private static void come() {
        SoftStairs x = new SoftStairs();
        Check.due("come(0)", x.come(0), SoftStairs.BAD_VALUE);
        Check.due("come(201)", x.come(201), SoftStairs.BAD_VALUE);
        Check.due("come(-1)", x.come(-1), SoftStairs.BAD_VALUE);
        Check.due("not a change", x.count(19), 0);
        for (int i = 1; i <= 20; i++) {
            Check.due("come " + i, x.come(i == 1 ? 1 : 200), i);
        }
        Check.due("come 21", x.come(5), SoftStairs.TOO_MANY);
        Check.due("come 21, bad", x.come(201), SoftStairs.BAD_VALUE);
        Check.due("people", x.count(1), 20);
        Check.due("load", x.count(2), 3801);
        x.stop();
        Check.due("come 21, stopping", x.come(5), SoftStairs.TOO_MANY);
        SoftStairs y = new SoftStairs();
        y.stop();
        Check.due("come while stopping", y.come(5), SoftStairs.NOT_POSSIBLE);
        Check.due("come(0) while stopping", y.come(0), SoftStairs.BAD_VALUE);
        y.pass(1);
        Check.due("come while stopped", y.come(5), SoftStairs.NOT_POSSIBLE);
        y.restart();
        Check.due("come after a restart", y.come(5), 1);
    }

    private static void sense() {
        SoftStairs x = new SoftStairs();
        Check.due("sense(-1, 0, 1)", x.sense(-1, 0, 1), SoftStairs.NO_SUCH);
        Check.due("sense(4, 0, 1)", x.sense(4, 0, 1), SoftStairs.NO_SUCH);
        Check.due("sense(0, -1, 1)", x.sense(0, -1, 1), SoftStairs.NO_SUCH);
        Check.due("sense(0, 2, 1)", x.sense(0, 2, 1), SoftStairs.NO_SUCH);
        Check.due("sense(4, 0, 2)", x.sense(4, 0, 2), SoftStairs.NO_SUCH);
        Check.due("sense(0, 0, 2)", x.sense(0, 0, 2), SoftStairs.BAD_VALUE);
        Check.due("sense(0, 0, -1)", x.sense(0, 0, -1), SoftStairs.BAD_VALUE);
        Check.due("not a change", x.count(19), 0);
        for (int spot = 0; spot < 4; spot++) {
            for (int sensor = 0; sensor < 2; sensor++) {
                SoftStairs y = new SoftStairs();
                Check.due("on", y.sense(spot, sensor, 1), 0);
                Check.due("on again", y.sense(spot, sensor, 1), 1);
                for (int i = 0; i < 8; i++) {
                    int want = i == 2 * spot + sensor ? 1 : 0;
                    Check.due("sensor " + i, y.ofSpot(i / 2, i % 2), want);
                }
                Check.due("off", y.sense(spot, sensor, 0), 1);
                Check.due("off again", y.sense(spot, sensor, 0), 0);
                Check.due("changes", y.count(19), 4);
            }
        }
    }

    private static void stop() {
        SoftStairs x = new SoftStairs();
        x.pass(3);
        Check.due("stop", x.stop(), 18);
        Check.due("stopping", x.count(4), 1);
        Check.due("the speed stays until a tick", x.count(3), 18);
        Check.due("stop while stopping", x.stop(), SoftStairs.NOT_POSSIBLE);
        Check.due("no other change", x.count(19), 2);
        x.pass(2);
        Check.due("still stopping", x.count(4), 1);
        Check.due("slower", x.count(3), 6);
        x.pass(1);
        Check.due("stopped", x.count(4), 2);
        Check.due("stop while stopped", x.stop(), SoftStairs.NOT_POSSIBLE);
        Check.due("one stop", x.count(7), 1);
        SoftStairs y = new SoftStairs();
        Check.due("stop at the speed 0", y.stop(), 0);
        Check.due("stopping until a tick", y.count(4), 1);
        y.pass(1);
        Check.due("stopped behind it", y.count(4), 2);
    }

    private static void restart() {
        SoftStairs x = new SoftStairs();
        x.come(50);
        x.come(60);
        Check.due("restart while running", x.restart(), SoftStairs.NOT_POSSIBLE);
        x.pass(1);
        x.stop();
        Check.due("restart while stopping", x.restart(), SoftStairs.NOT_POSSIBLE);
        x.pass(1);
        Check.due("stopped", x.count(4), 2);
        x.sense(2, 0, 1);
        x.sense(2, 1, 1);
        Check.due("restart while the rule holds", x.restart(), SoftStairs.NOT_POSSIBLE);
        x.sense(2, 1, 0);
        Check.due("restart", x.restart(), 2);
        Check.due("running", x.count(4), 0);
        Check.due("from the speed 0", x.count(3), 0);
        x.pass(1);
        Check.due("faster", x.count(3), 6);
        SoftStairs y = new SoftStairs();
        y.stop();
        y.pass(1);
        y.restart();
        Check.due("restart is a change", y.undo(), 2);
        Check.due("stopped again", y.count(4), 2);
    }

    private static void pass() {
        SoftStairs x = new SoftStairs();
        Check.due("pass(0)", x.pass(0), SoftStairs.BAD_VALUE);
        Check.due("pass(-1)", x.pass(-1), SoftStairs.BAD_VALUE);
        Check.due("pass(1000)", x.pass(1000), SoftStairs.BAD_VALUE);
        Check.due("pass(MAX)", x.pass(Integer.MAX_VALUE), SoftStairs.BAD_VALUE);
        Check.due("not a change", x.count(19), 0);
        for (int i = 1; i <= 100; i++) {
            Check.due("pass(999)", x.pass(999), 999 * i);
        }
        Check.due("pass to 100000", x.pass(100), SoftStairs.TOO_MANY);
        Check.due("pass to 100898", x.pass(999), SoftStairs.TOO_MANY);
        Check.due("too large and too late", x.pass(1000), SoftStairs.BAD_VALUE);
        Check.due("pass to 99998", x.pass(98), 99998);
        Check.due("pass to 99999", x.pass(1), 99999);
        Check.due("pass beyond", x.pass(1), SoftStairs.TOO_MANY);
        Check.due("still 99999", x.count(0), 99999);
    }

    private static void speedFollowsLoad() {
        SoftStairs x = new SoftStairs();
        x.set(SoftStairs.RAMP, 30);
        x.set(SoftStairs.HEAVY, 9999);
        x.come(99);
        x.pass(3);
        Check.due("99 kilograms take nothing", x.count(3), 50);
        x.come(1);
        x.pass(3);
        Check.due("100 kilograms take one", x.count(3), 49);
        x.set(SoftStairs.PER, 3);
        x.pass(3);
        Check.due("100 / 3", x.count(3), 17);
        x.set(SoftStairs.PER, 2);
        x.pass(3);
        Check.due("not less than SLOW", x.count(3), 10);
        x.set(SoftStairs.PER, 1);
        x.pass(3);
        Check.due("nor below 0", x.count(3), 10);

        SoftStairs y = new SoftStairs();
        y.set(SoftStairs.PER, 1);
        y.come(23);
        y.pass(9);
        Check.due("one less for each kilogram", y.count(3), 27);
    }

    private static void speedChangesByRamp() {
        SoftStairs x = new SoftStairs();
        x.set(SoftStairs.RAMP, 7);
        x.set(SoftStairs.HEAVY, 100);
        x.set(SoftStairs.PER, 999);
        x.come(100);
        x.pass(1);
        Check.due("100 is not above HEAVY", x.count(3), 7);
        x.come(1);
        x.pass(1);
        Check.due("101 is: half of 7, rounded up", x.count(3), 11);
        Check.due("the greatest change", x.count(10), 7);
        x.set(SoftStairs.RAMP, 1);
        x.pass(1);
        Check.due("half of 1, rounded up", x.count(3), 12);
        x.set(SoftStairs.RAMP, 8);
        x.pass(1);
        Check.due("half of 8", x.count(3), 16);
        x.stop();
        x.pass(1);
        Check.due("half of 8, downwards", x.count(3), 12);
        Check.due("the units", x.count(9), 7 + 11 + 12 + 16 + 12);

        SoftStairs y = new SoftStairs();
        y.pass(8);
        Check.due("8 steps of 6", y.count(3), 48);
        y.pass(1);
        Check.due("then what is left", y.count(3), 50);
        y.set(SoftStairs.FULL, 45);
        y.set(SoftStairs.RAMP, 3);
        y.pass(1);
        Check.due("down by 3", y.count(3), 47);
        y.pass(1);
        Check.due("down by 2", y.count(3), 45);
    }

    private static void slowWhenEmpty() {
        SoftStairs x = new SoftStairs();
        x.set(SoftStairs.RAMP, 30);
        x.pass(20);
        Check.due("20 empty ticks are not more than IDLE", x.count(3), 50);
        Check.due("empty ticks", x.count(8), 20);
        x.pass(1);
        Check.due("21 are", x.count(3), 20);
        x.pass(1);
        Check.due("SLOW", x.count(3), 10);
        x.come(50);
        Check.due("coming passes no tick", x.count(8), 22);
        x.pass(1);
        Check.due("no more empty", x.count(3), 40);
        Check.due("empty ticks again", x.count(8), 0);

        SoftStairs y = new SoftStairs();
        y.set(SoftStairs.IDLE, 1);
        y.come(50);
        y.pass(27);
        Check.due("one is off", y.count(1), 0);
        int empty = y.count(8);
        Check.holds("the tick behind which nobody was left counts", empty >= 1);
        SoftStairs z = new SoftStairs();
        z.set(SoftStairs.IDLE, 1);
        z.come(50);
        z.pass(27 - empty);
        Check.due("still there", z.count(1), 1);
        Check.due("fast", z.count(3), 50);
        z.pass(1);
        Check.due("off in this tick", z.count(1), 0);
        Check.due("one empty tick", z.count(8), 1);
        Check.due("not slower yet", z.count(3), 50);
        z.pass(1);
        Check.due("two empty ticks are more than 1", z.count(3), 44);

        SoftStairs w = new SoftStairs();
        w.stop();
        w.pass(30);
        Check.due("empty ticks of stopped stairs count", w.count(8), 30);
        w.restart();
        w.pass(4);
        Check.due("they are slow at once", w.count(3), 10);
    }

    private static void slowInDoubt() {
        for (int spot = 0; spot < 4; spot++) {
            SoftStairs x = new SoftStairs();
            x.set(SoftStairs.DOUBT, 2);
            x.set(SoftStairs.RAMP, 30);
            x.pass(2);
            x.sense(spot, spot % 2, 1);
            x.pass(2);
            Check.due("2 ticks are not more than DOUBT", x.count(3), 50);
            x.pass(1);
            Check.due("3 are", x.count(3), 20);
            Check.due("it only slows", x.count(4), 0);
            x.sense(spot, spot % 2, 0);
            x.sense(spot, 1 - spot % 2, 1);
            x.pass(1);
            Check.due("the other one complains: they disagree all the same", x.count(3), 10);
            Check.due("disagreed", x.ofSpot(spot, 2), 4);
            x.sense(spot, 1 - spot % 2, 0);
            Check.due("sense() changes nothing of that", x.ofSpot(spot, 2), 4);
            x.pass(1);
            Check.due("no doubt any more", x.count(3), 40);
            Check.due("agreed", x.ofSpot(spot, 2), 0);
        }
        SoftStairs y = new SoftStairs();
        y.set(SoftStairs.DOUBT, 1);
        y.set(SoftStairs.RAMP, 30);
        y.sense(0, 0, 1);
        y.pass(1);
        y.sense(0, 0, 0);
        y.sense(1, 0, 1);
        y.pass(1);
        Check.due("ticks of two spots are not added", y.count(3), 50);
        y.set(SoftStairs.FULL, 10);
        y.set(SoftStairs.SLOW, 40);
        y.pass(1);
        Check.due("SLOW in doubt", y.count(3), 40);
    }

    private static void peopleAreCarriedOff() {
        SoftStairs x = new SoftStairs();
        x.set(SoftStairs.FULL, 10);
        x.set(SoftStairs.RAMP, 30);
        x.come(70);
        x.pass(1);
        x.come(80);
        x.pass(98);
        Check.due("at 990", x.of(0, 0), 990);
        Check.due("at 980", x.of(1, 0), 980);
        x.pass(1);
        Check.due("1000 is off", x.count(1), 1);
        Check.due("off", x.count(5), 1);
        Check.due("its weight", x.count(6), 70);
        Check.due("the next one is the first now", x.of(0, 1), 80);
        Check.due("its place", x.of(0, 0), 990);
        Check.due("its ticks", x.of(0, 2), 99);
        Check.due("the load", x.count(2), 80);
        x.set(SoftStairs.FULL, 9);
        x.pass(1);
        Check.due("both off", x.count(5), 2);
        Check.due("both weights", x.count(6), 150);
        Check.due("empty", x.count(8), 1);

        SoftStairs y = new SoftStairs();
        y.set(SoftStairs.FULL, 27);
        y.set(SoftStairs.RAMP, 27);
        y.set(SoftStairs.PER, 999);
        y.come(1);
        y.pass(37);
        Check.due("999 is not off", y.of(0, 0), 999);
        y.pass(1);
        Check.due("1026 is", y.count(5), 1);
    }

    private static void ruleStops() {
        SoftStairs x = Calls.withRule("a&!B");
        x.pass(2);
        x.sense(0, 1, 1);
        Check.due("sense() alone stops nothing", x.count(4), 0);
        x.pass(1);
        Check.due("the rule does, in a tick", x.count(4), 1);
        Check.due("and this tick slows already", x.count(3), 6);
        Check.due("a stop", x.count(7), 1);
        x.sense(0, 1, 0);
        x.pass(1);
        Check.due("it does not end by itself", x.count(4), 2);
        x.pass(5);
        Check.due("nor later", x.count(3), 0);
        x.restart();
        x.sense(0, 1, 1);
        x.pass(1);
        Check.due("a second stop, at the speed 0: stopped in one tick", x.count(4), 2);
        Check.due("two stops", x.count(7), 2);
        x.pass(9);
        Check.due("what has stopped does not stop again", x.count(7), 2);
    }
}
