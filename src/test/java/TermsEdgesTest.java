/** The boundary cases of the part "Terms" of the document, a test for each sentence. */
public final class TermsEdgesTest {
    private TermsEdgesTest() { }

    public static void main(String[] args) {
        lastOf512Calls();
        firstErrorIsReturned();
        noneOnlyWithoutError();
        divisionsAreRoundedDown();
        settingsAtTheirEnds();
        idleAndDoubtAtTheirEnds();
        wayIs1000Long();
        upTo20People();
        loadIsAllWeights();
        runStoppingStopped();
        justOneOfBoth();
        lettersOfARule();
        notAndOr();
        ruleStopsStairsThatRun();
        wantedSpeedIs0();
        moreThanDoubt();
        moreThanIdle();
        notLessThanSlow();
        noMoreThanRamp();
        halfAboveHeavy();
        carriedByTheNewSpeed();
        speed0HasStopped();
        tickIsOneMore();
        padOf60();
        lettersAToD();
        joinFromTheLeft();
        firstCharacterThatCannotStand();
        textThatEndsTooEarly();
        Check.end("TermsEdgesTest");
    }

    private static void lastOf512Calls() {
        Check.about("An object is used for at most 512 calls after it has been made");
        SoftStairs x = new SoftStairs();
        for (int i = 1; i <= 511; i++) {
            x.set(SoftStairs.RAMP, 1 + i % 30);
        }
        Check.due("call 512, set(RAMP, 30)", x.set(SoftStairs.RAMP, 30), 1 + 511 % 30);
        SoftStairs y = new SoftStairs();
        for (int i = 1; i <= 254; i++) {
            y.put(Calls.packed("!a"));
            y.load();
        }
        y.put(Calls.packed("b|C"));
        Check.due("call 510, load()", y.load(), 3);
        Check.due("call 511, wouldHold(4)", y.wouldHold(4), 1);
        Check.due("call 512, wouldHold(16)", y.wouldHold(16), 0);
    }

    private static void firstErrorIsReturned() {
        Check.about("it names its errors in the order in which they are checked, and the first one that applies "
            + "is returned");
        SoftStairs full = States.made(x -> Calls.come(x, 20, 1));
        Check.due("come(0) with 20 people", full.come(0), SoftStairs.BAD_VALUE);
        full.stop();
        Check.due("come(201) with 20 people, stopping", full.come(201), SoftStairs.BAD_VALUE);
        Check.due("come(1) with 20 people, stopping", full.come(1), SoftStairs.TOO_MANY);
        SoftStairs x = new SoftStairs();
        Check.due("sense(4, 0, 2)", x.sense(4, 0, 2), SoftStairs.NO_SUCH);
        Check.due("sense(0, 2, 2)", x.sense(0, 2, 2), SoftStairs.NO_SUCH);
        Check.due("of(0, 3), nobody", x.of(0, 3), SoftStairs.NO_SUCH);
        Check.due("ofSpot(4, 3)", x.ofSpot(4, 3), SoftStairs.NO_SUCH);
        Check.due("ofStop(0, 5), no stop", x.ofStop(0, 5), SoftStairs.NO_SUCH);
        Check.due("restore(2), nothing saved", x.restore(2), SoftStairs.BAD_VALUE);
        Calls.write(x, Calls.times("!", 60));
        Check.due("put(32), 60 characters", x.put(32), SoftStairs.BAD_VALUE);
        SoftStairs late = States.made(s -> Calls.passTo(s, 99999));
        Check.due("pass(0) in tick 99999", late.pass(0), SoftStairs.BAD_VALUE);
        Check.due("pass(1000) in tick 99999", late.pass(1000), SoftStairs.BAD_VALUE);
    }

    private static void noneOnlyWithoutError() {
        Check.about("NONE (-6) is not an error; it is returned only if no error applies");
        SoftStairs x = new SoftStairs();
        x.pass(9);
        Check.due("leastRamp(0)", x.leastRamp(0), SoftStairs.NONE);
        Check.due("leastRamp(-1)", x.leastRamp(-1), SoftStairs.BAD_VALUE);
    }

    private static void divisionsAreRoundedDown() {
        Check.about("Divisions are rounded down, unless \"rounded up\" is written");
        int[] loads = {99, 100, 199, 200};
        int[] speeds = {50, 49, 49, 48};
        for (int i = 0; i < 4; i++) {
            SoftStairs x = new SoftStairs();
            x.come(loads[i] / 2);
            x.come(loads[i] - loads[i] / 2);
            x.pass(9);
            Check.due("speed with " + loads[i] + " kilograms", x.count(3), speeds[i]);
        }
    }

    private static int speedBehind(int full, int slow, int ramp, int ticks) {
        SoftStairs x = new SoftStairs();
        x.set(SoftStairs.FULL, full);
        x.set(SoftStairs.SLOW, slow);
        x.set(SoftStairs.RAMP, ramp);
        x.pass(ticks);
        return x.count(3);
    }

    private static void settingsAtTheirEnds() {
        Check.about("FULL (10 to 90; 50), SLOW (1 to 40; 10), RAMP (1 to 30; 6)");
        Check.due("FULL 10", speedBehind(10, 1, 30, 9), 10);
        Check.due("FULL 90", speedBehind(90, 1, 30, 9), 90);
        Check.due("SLOW 1, IDLE 20", speedBehind(50, 1, 30, 30), 1);
        Check.due("SLOW 40, IDLE 20", speedBehind(50, 40, 30, 30), 40);
        Check.due("RAMP 1", speedBehind(50, 10, 1, 1), 1);
        Check.due("RAMP 30", speedBehind(50, 10, 30, 1), 30);
        Check.about("PER (1 to 999; 100) and HEAVY (1 to 9999; 800), in kilograms");
        Check.due("PER 1, 1 kilogram", loadedSpeed(1, 800, 1), 49);
        Check.due("PER 999, 998 kilograms", loadedSpeed(999, 9999, 998), 50);
        Check.due("PER 999, 999 kilograms", loadedSpeed(999, 9999, 999), 49);
        Check.due("HEAVY 1, 1 kilogram: 9 steps of 6", loadedSpeed(999, 1, 1), 50);
        Check.due("HEAVY 1, 2 kilograms: 9 steps of 3", loadedSpeed(999, 1, 2), 27);
        Check.due("HEAVY 9999, 4000 kilograms: 9 steps of 6", loadedSpeed(999, 9999, 4000), 46);
    }

    private static int loadedSpeed(int per, int heavy, int load) {
        SoftStairs x = new SoftStairs();
        x.set(SoftStairs.PER, per);
        x.set(SoftStairs.HEAVY, heavy);
        for (int left = load; left > 0; left -= 200) {
            x.come(Math.min(200, left));
        }
        x.pass(9);
        return x.count(3);
    }

    private static void idleAndDoubtAtTheirEnds() {
        Check.about("IDLE (1 to 99; 20) and DOUBT (1 to 99; 5), in ticks");
        int[] ends = {1, 99};
        for (int end : ends) {
            SoftStairs idle = new SoftStairs();
            idle.set(SoftStairs.FULL, 30);
            idle.set(SoftStairs.RAMP, 30);
            idle.set(SoftStairs.IDLE, end);
            idle.pass(end);
            Check.due("IDLE " + end + ", tick " + end, idle.count(3), 30);
            idle.pass(1);
            Check.due("IDLE " + end + ", a tick more", idle.count(3), 10);
            SoftStairs doubt = new SoftStairs();
            doubt.set(SoftStairs.FULL, 10);
            doubt.set(SoftStairs.SLOW, 1);
            doubt.set(SoftStairs.RAMP, 30);
            doubt.set(SoftStairs.DOUBT, end);
            doubt.come(1);
            doubt.sense(0, 0, 1);
            doubt.pass(end);
            Check.due("DOUBT " + end + ", tick " + end, doubt.count(3), 10);
            doubt.pass(1);
            Check.due("DOUBT " + end + ", a tick more", doubt.count(3), 1);
            Check.due("somebody is still on the way", doubt.count(1), 1);
        }
    }

    /** One stands at 27 * 36 = 972, and the next tick goes on by the speed that is told, 27 or more. */
    private static SoftStairs from972(int speed) {
        SoftStairs x = new SoftStairs();
        x.set(SoftStairs.FULL, 27);
        x.set(SoftStairs.RAMP, 27);
        x.come(40);
        x.pass(36);
        x.set(SoftStairs.FULL, speed);
        x.pass(1);
        return x;
    }

    private static void wayIs1000Long() {
        Check.about("The way is 1000 units long; a place (0 to 999 units; 0 as one steps on); those who come to "
            + "1000 or more are off");
        SoftStairs on = from972(27);
        Check.due("place 999", on.of(0, 0), 999);
        Check.due("people at 999", on.count(1), 1);
        Check.due("off at 999", on.count(5), 0);
        on.come(41);
        Check.due("place of the next one", on.of(1, 0), 0);
        for (int speed = 28; speed <= 29; speed++) {
            SoftStairs off = from972(speed);
            Check.due("people at " + (972 + speed), off.count(1), 0);
            Check.due("off at " + (972 + speed), off.count(5), 1);
            Check.due("their weight", off.count(6), 40);
            Check.due("units", off.count(9), 972 + speed);
        }
    }

    private static void upTo20People() {
        Check.about("Up to 20 people are on it, in the order in which they stepped on");
        SoftStairs x = new SoftStairs();
        for (int i = 1; i <= 20; i++) {
            Check.due("come(" + i + ")", x.come(i), i);
        }
        Check.due("the 21st", x.come(21), SoftStairs.TOO_MANY);
        for (int who = 0; who < 20; who++) {
            Check.due("weight of " + who, x.of(who, 1), who + 1);
        }
        x.pass(30);
        Check.due("all 20 are off", x.count(5), 20);
        Check.due("nobody", x.count(1), 0);
        Check.due("the first one again", x.come(99), 1);
        Check.due("place", x.of(0, 0), 0);
        Check.due("weight", x.of(0, 1), 99);
        Check.due("ticks", x.of(0, 2), 0);
    }

    private static void loadIsAllWeights() {
        Check.about("The load is all their weights together");
        SoftStairs x = new SoftStairs();
        Check.due("nobody", x.count(2), 0);
        x.come(1);
        Check.due("one kilogram", x.count(2), 1);
        x.undo();
        Calls.come(x, 20, 200);
        Check.due("20 times 200", x.count(2), 4000);
        x.pass(200);
        Check.due("all off", x.count(2), 0);
        Check.due("their weights", x.count(6), 4000);
    }

    private static void runStoppingStopped() {
        Check.about("The stairs run (0), are stopping (1), or have stopped (2); at first they run, with the speed 0");
        SoftStairs x = new SoftStairs();
        Check.due("at first", x.count(4), 0);
        Check.due("speed at first", x.count(3), 0);
        x.stop();
        Check.due("stopping", x.count(4), 1);
        x.pass(1);
        Check.due("stopped", x.count(4), 2);
        x.restart();
        Check.due("running again", x.count(4), 0);
    }

    private static void justOneOfBoth() {
        Check.about("at first none does; At a spot the sensors disagree if just one of both complains");
        for (int spot = 0; spot < 4; spot++) {
            for (int both = 0; both < 4; both++) {
                SoftStairs x = new SoftStairs();
                Check.due("sensor 0 at first", x.ofSpot(spot, 0), 0);
                Check.due("sensor 1 at first", x.ofSpot(spot, 1), 0);
                x.sense(spot, 0, both & 1);
                x.sense(spot, 1, both >> 1);
                x.pass(1);
                for (int other = 0; other < 4; other++) {
                    int want = other == spot && (both == 1 || both == 2) ? 1 : 0;
                    Check.due("spot " + other + ", " + both + " at " + spot, x.ofSpot(other, 2), want);
                }
            }
        }
    }

    private static void lettersOfARule() {
        Check.about("a letter from a to d: any sensor of the spot 0 to 3 complains; a letter from A to D: both do");
        for (int spot = 0; spot < 4; spot++) {
            SoftStairs any = Calls.withRule(String.valueOf((char) ('a' + spot)));
            SoftStairs both = Calls.withRule(String.valueOf((char) ('A' + spot)));
            int pair = 3 << 2 * spot;
            for (int set = 0; set < 256; set++) {
                Check.due("any of spot " + spot + " in " + set, any.wouldHold(set), (set & pair) != 0 ? 1 : 0);
                Check.due("both of spot " + spot + " in " + set, both.wouldHold(set), (set & pair) == pair ? 1 : 0);
            }
        }
    }

    private static void notAndOr() {
        Check.about("\"!\": that part does not hold; \"&\": both hold; \"|\": the first one holds, or, if it "
            + "does not, the second one");
        int[] sets = {0, 1, 4, 5};
        int[] and = {0, 0, 0, 1};
        int[] or = {0, 1, 1, 1};
        int[] not = {1, 0, 1, 0};
        for (int i = 0; i < 4; i++) {
            Check.due("a&b in " + sets[i], Calls.withRule("a&b").wouldHold(sets[i]), and[i]);
            Check.due("a|b in " + sets[i], Calls.withRule("a|b").wouldHold(sets[i]), or[i]);
            Check.due("!a in " + sets[i], Calls.withRule("!a").wouldHold(sets[i]), not[i]);
        }
    }

    private static void ruleStopsStairsThatRun() {
        Check.about("If the stairs run, and the rule holds, they are stopping from now on, and this is a stop");
        SoftStairs first = new SoftStairs();
        Calls.senseAll(first, 3);
        first.pass(1);
        Check.due("in the tick 0: stopped", first.count(4), 2);
        Check.due("one stop", first.count(7), 1);
        Check.due("in the tick 0", first.ofStop(0, 0), 0);
        SoftStairs x = new SoftStairs();
        x.pass(9);
        Calls.senseAll(x, 3);
        Check.due("not without a tick", x.count(4), 0);
        Calls.senseAll(x, 1);
        x.pass(1);
        Check.due("it does not hold in the tick", x.count(4), 0);
        Check.due("no stop", x.count(7), 0);
        Calls.senseAll(x, 3);
        x.pass(1);
        Check.due("it holds in the tick", x.count(4), 1);
        x.pass(5);
        Check.due("no second stop while stopping", x.count(7), 1);
        x.pass(50);
        Check.due("nor behind that", x.count(7), 1);
        SoftStairs hand = new SoftStairs();
        Calls.senseAll(hand, 3);
        hand.stop();
        hand.pass(3);
        Check.due("stopped by hand ahead of the tick", hand.ofStop(0, 4), 1);
        Check.due("no second stop", hand.count(7), 1);
    }

    private static void wantedSpeedIs0() {
        Check.about("The speed that is wanted: 0, unless the stairs run");
        SoftStairs x = new SoftStairs();
        x.set(SoftStairs.IDLE, 1);
        x.set(SoftStairs.DOUBT, 1);
        x.pass(1);
        x.sense(0, 0, 1);
        x.pass(1);
        Check.due("towards SLOW", x.count(3), 10);
        x.stop();
        x.pass(1);
        Check.due("idle, but stopping", x.count(3), 4);
        x.pass(1);
        Check.due("in doubt, but stopping", x.count(3), 0);
        x.pass(99);
        Check.due("has stopped", x.count(3), 0);
        Check.due("no units more", x.count(9), 6 + 10 + 4);
    }

    private static void moreThanDoubt() {
        Check.about("SLOW, if some spot's sensors have disagreed for more than DOUBT ticks (this one, too)");
        for (int bit = 0; bit < 8; bit++) {
            SoftStairs x = new SoftStairs();
            x.set(SoftStairs.RAMP, 30);
            x.set(SoftStairs.IDLE, 99);
            x.pass(3);
            x.sense(bit / 2, bit % 2, 1);
            x.pass(5);
            Check.due("5 ticks, sensor " + bit, x.count(3), 50);
            x.pass(1);
            Check.due("6 ticks, sensor " + bit, x.count(3), 20);
            x.pass(1);
            Check.due("7 ticks, sensor " + bit, x.count(3), 10);
            x.sense(bit / 2, 1 - bit % 2, 1);
            Calls.loadRule(x, "a&!a");
            x.pass(1);
            Check.due("both complain", x.count(3), 40);
            x.sense(bit / 2, 1 - bit % 2, 0);
            x.pass(5);
            Check.due("5 ticks again", x.count(3), 50);
            x.pass(1);
            Check.due("6 ticks again", x.count(3), 20);
        }
    }

    private static void moreThanIdle() {
        Check.about("if nobody is on the stairs, and this tick and those ahead of it, one after the other, "
            + "behind which nobody was on them are more than IDLE");
        SoftStairs x = new SoftStairs();
        x.set(SoftStairs.RAMP, 30);
        x.pass(20);
        Check.due("20 ticks", x.count(3), 50);
        x.come(1);
        x.pass(1);
        Check.due("21 ticks, but somebody is there", x.count(3), 50);
        x.pass(18);
        Check.due("place 950", x.of(0, 0), 950);
        x.pass(1);
        Check.due("off in this tick", x.count(1), 0);
        x.pass(19);
        Check.due("20 ticks behind which nobody was there", x.count(8), 20);
        Check.due("not more than 20", x.count(3), 50);
        x.pass(1);
        Check.due("21", x.count(3), 20);
        x.pass(1);
        Check.due("22", x.count(3), 10);
    }

    private static void notLessThanSlow() {
        Check.about("Otherwise FULL less the load divided by PER, but not less than SLOW");
        int[] loads = {38, 39, 40, 41, 49, 50, 51, 200};
        int[] speeds = {12, 11, 10, 10, 10, 10, 10, 10};
        for (int i = 0; i < loads.length; i++) {
            SoftStairs x = new SoftStairs();
            x.set(SoftStairs.PER, 1);
            x.come(loads[i]);
            x.pass(9);
            Check.due("50 less " + loads[i], x.count(3), speeds[i]);
        }
        SoftStairs y = new SoftStairs();
        y.set(SoftStairs.FULL, 39);
        y.set(SoftStairs.SLOW, 40);
        y.pass(9);
        Check.due("FULL 39, SLOW 40", y.count(3), 40);
    }

    private static void noMoreThanRamp() {
        Check.about("The speed becomes this one, but changes by no more than RAMP");
        for (int less = -1; less <= 1; less++) {
            SoftStairs x = new SoftStairs();
            x.set(SoftStairs.FULL, 20);
            x.set(SoftStairs.RAMP, 20 + less);
            x.pass(1);
            Check.due("up 20 by " + (20 + less), x.count(3), less < 0 ? 19 : 20);
            x.pass(1);
            Check.due("then", x.count(3), 20);
            x.set(SoftStairs.FULL, 10);
            x.set(SoftStairs.RAMP, 10 + less);
            x.pass(1);
            Check.due("down 10 by " + (10 + less), x.count(3), less < 0 ? 11 : 10);
        }
    }

    private static void halfAboveHeavy() {
        Check.about("if the load is above HEAVY, by no more than half of RAMP, rounded up");
        int[] ramps = {1, 2, 3, 29, 30};
        int[] halves = {1, 1, 2, 15, 15};
        for (int i = 0; i < ramps.length; i++) {
            SoftStairs x = new SoftStairs();
            x.set(SoftStairs.HEAVY, 200);
            x.set(SoftStairs.RAMP, ramps[i]);
            x.come(199);
            x.come(1);
            x.pass(1);
            Check.due("200 kilograms, RAMP " + ramps[i], x.count(3), ramps[i]);
            x.come(1);
            x.pass(1);
            int want = Math.min(48, ramps[i] + halves[i]);
            Check.due("201 kilograms, RAMP " + ramps[i], x.count(3), want);
            x.stop();
            x.pass(1);
            Check.due("201 kilograms, downwards", x.count(3), want - halves[i]);
        }
        SoftStairs y = new SoftStairs();
        y.set(SoftStairs.HEAVY, 1);
        y.set(SoftStairs.PER, 999);
        y.set(SoftStairs.FULL, 90);
        y.come(2);
        y.pass(20);
        Check.due("20 halves of 6", y.count(3), 60);
        Check.due("place", y.of(0, 0), 630);
        y.pass(5);
        Check.due("630 and 63, 66, 69, 72, 75", y.of(0, 0), 975);
        y.pass(1);
        Check.due("off in this tick", y.count(1), 0);
        Check.due("the load of this tick was still above HEAVY", y.count(3), 78);
        y.pass(1);
        Check.due("the whole RAMP from then on", y.count(3), 84);
    }

    private static void carriedByTheNewSpeed() {
        Check.about("All people are carried on by the speed");
        SoftStairs x = new SoftStairs();
        x.come(1);
        x.pass(1);
        Check.due("by 6, not by 0", x.of(0, 0), 6);
        x.stop();
        x.pass(1);
        Check.due("by 0, not by 6", x.of(0, 0), 6);
    }

    private static void speed0HasStopped() {
        Check.about("If the stairs are stopping, and the speed is 0, they have stopped");
        for (int speed = 5; speed <= 7; speed++) {
            SoftStairs x = new SoftStairs();
            x.pass(2);
            x.set(SoftStairs.FULL, 10);
            x.set(SoftStairs.PER, 1);
            x.set(SoftStairs.SLOW, 1);
            x.come(10 - speed);
            x.set(SoftStairs.RAMP, 30);
            x.pass(1);
            Check.due("speed", x.count(3), speed);
            x.set(SoftStairs.RAMP, 6);
            x.stop();
            x.pass(1);
            Check.due("speed behind a tick", x.count(3), speed == 7 ? 1 : 0);
            Check.due("from " + speed + " by 6", x.count(4), speed == 7 ? 1 : 2);
            x.pass(1);
            Check.due("a tick more", x.count(4), 2);
        }
    }

    private static void tickIsOneMore() {
        Check.about("Then the tick of now is one more (0 at first)");
        SoftStairs x = new SoftStairs();
        Check.due("at first", x.count(0), 0);
        x.pass(1);
        Check.due("behind one", x.count(0), 1);
        x.come(5);
        Check.due("no tick without pass()", x.count(0), 1);
    }

    private static void padOf60() {
        Check.about("The pad is a text of at most 60 characters");
        SoftStairs x = new SoftStairs();
        Calls.write(x, Calls.times("!", 58));
        Check.due("59", x.put(Calls.packed("!")), 59);
        Check.due("60", x.put(Calls.packed("a")), 60);
        Check.due("61", x.put(Calls.packed("a")), SoftStairs.TOO_MANY);
        Check.due("60 stay", x.count(18), 60);
        Check.due("all 60 are read", x.load(), 60);
    }

    private static void lettersAToD() {
        Check.about("A letter is one from a to d or from A to D");
        String outside = "`e@EzZ0";
        for (int i = 0; i < outside.length(); i++) {
            Check.due("fault of " + outside.charAt(i), fault(outside.substring(i, i + 1)), 0);
        }
        String letters = "abcdABCD";
        for (int i = 0; i < letters.length(); i++) {
            String letter = letters.substring(i, i + 1);
            Check.due("fault of " + letter, fault(letter), SoftStairs.NONE);
            Check.due("letters of " + letter, Calls.withRule(letter).rule(3), 1 << i);
        }
    }

    private static int fault(String text) {
        return Calls.faultOf(new SoftStairs(), text);
    }

    private static void joinFromTheLeft() {
        Check.about("\"|\" and \"&\" join from the left: the rule up to there with the next one");
        SoftStairs or = Calls.withRule("a|b|c");
        or.sense(0, 0, 1);
        Check.due("(a|b)|c looks at both | and a", or.rule(4), 3);
        SoftStairs and = Calls.withRule("a&b&c");
        Check.due("(a&b)&c looks at both & and a", and.rule(4), 3);
        Check.due("depth of a|b|c&d", Calls.withRule("a|b|c&d").rule(1), 3);
        Check.due("depth of a&b&c|d", Calls.withRule("a&b&c|d").rule(1), 4);
        Check.due("a&b|c at c", Calls.withRule("a&b|c").wouldHold(16), 1);
        Check.due("a|b&c at a", Calls.withRule("a|b&c").wouldHold(1), 1);
        Check.due("!a&b: the ! is a's alone", Calls.withRule("!a&b").wouldHold(0), 0);
    }

    private static void firstCharacterThatCannotStand() {
        Check.about("The fault is the index of the first character that cannot stand at its place when the text "
            + "is read from left to right");
        String[] texts = {"&", "|", ")", "ab", "a(", "a!", "a)", "()", "(&", "!&", "!)", "a&)", "a||b", "(a))",
            "(a(", "(a)b", "((a)|b)c", "x&y"};
        int[] faults = {0, 0, 0, 1, 1, 1, 1, 1, 1, 1, 1, 2, 2, 3, 2, 3, 7, 0};
        for (int i = 0; i < texts.length; i++) {
            Check.due("fault of " + texts[i], fault(texts[i]), faults[i]);
        }
        Check.due("the last of 60", fault(Calls.times("!", 59) + ")"), 59);
        Check.due("one bracket too many, the last of 60",
            fault(Calls.times("(", 29) + "a" + Calls.times(")", 30)), 59);
        Check.due("as many as were opened", fault(Calls.times("(", 29) + "a" + Calls.times(")", 29)), SoftStairs.NONE);
    }

    private static void textThatEndsTooEarly() {
        Check.about("if there is none and the text ends too early (also if it is empty), it is the length of the text");
        String[] texts = {"", "(", "!", "a&", "a|", "(a", "(a|b", "((a)", "!(a)&!"};
        for (String text : texts) {
            Check.due("fault of " + text, fault(text), text.length());
        }
        Check.due("60 characters", fault(Calls.times("b|", 30)), 60);
        Check.due("one bracket too few", fault(Calls.times("(", 30) + "a" + Calls.times(")", 29)), 60);
        Check.due("not too early", fault("a"), SoftStairs.NONE);
    }
}
