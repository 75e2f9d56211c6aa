/** Promises 18 to 24: texts, undo and saved states. */
public final class TextsTest {
    private TextsTest() { }

    public static void main(String[] args) {
        put();
        putLimit();
        wipe();
        fault();
        load();
        undo();
        undoLimit();
        undoLeavesPadAndSlots();
        errorsAreNoChanges();
        save();
        restore();
        Check.end("TextsTest");
    }

    private static void put() {
        SoftStairs x = new SoftStairs();
        long[] bad = {0L, -1L, 32L, 127L, 128L, 255L, 0x6100L, 0x610061L, 0x6120L, 0x2061L, 0x7f61L, 0x617fL,
            0x6100616161616161L, 0x8061616161616161L, 0xff61616161616161L, Long.MIN_VALUE, Long.MAX_VALUE,
            0x0061610061616161L, 0x6161616161616100L, 1L};
        for (long characters : bad) {
            Check.due("put(" + characters + ")", x.put(characters), SoftStairs.BAD_VALUE);
        }
        Check.due("nothing was put", x.count(18), 0);
        Check.due("33", x.put(33L), 1);
        Check.due("126", x.put(126L), 2);
        Check.due("eight", x.put(0x7e7e7e7e7e7e7e7eL), 10);
        Check.due("put is no change", x.count(19), 0);
        x.wipe();
        String text = "";
        for (int length = 1; length <= 8; length++) {
            Check.due("length " + length, x.put(Calls.packed("!!!!!!!a".substring(8 - length))), length);
            Check.due("in its order", x.load(), length);
        }
        x.put(Calls.packed("a|"));
        x.put(Calls.packed("(B&"));
        x.put(Calls.packed("c)"));
        Check.due("appended in their order", x.fault(), SoftStairs.NONE);
        Check.due("five parts", x.load(), 5);
        Check.due("holds at a", x.wouldHold(1), 1);
        Check.due("holds at B and c", x.wouldHold(12 + 16), 1);
        Check.due("not at B", x.wouldHold(12), 0);
        Check.due("not at C", x.wouldHold(48), 0);
    }

    private static void putLimit() {
        SoftStairs x = new SoftStairs();
        Calls.write(x, Calls.times("!", 55));
        Check.due("six more", x.put(Calls.packed("!!!!!!")), SoftStairs.TOO_MANY);
        Check.due("six more, bad", x.put(Calls.packed("!!!! !")), SoftStairs.BAD_VALUE);
        Check.due("55", x.count(18), 55);
        Check.due("five more", x.put(Calls.packed("!!!!a")), 60);
        Check.due("one more", x.put(Calls.packed("a")), SoftStairs.TOO_MANY);
        Check.due("one more, bad", x.put(0L), SoftStairs.BAD_VALUE);
        Check.due("60 parts", x.load(), 60);
        Check.due("room again", x.put(Calls.packed("a")), 1);
    }

    private static void wipe() {
        SoftStairs x = new SoftStairs();
        Check.due("nothing", x.wipe(), 0);
        x.put(Calls.packed("a|b"));
        Check.due("three", x.wipe(), 3);
        Check.due("empty", x.count(18), 0);
        Check.due("nothing again", x.wipe(), 0);
        Check.due("wipe is no change", x.count(19), 0);
        x.put(Calls.packed("c"));
        x.load();
        Check.due("nothing is left of it", x.rule(3), 4);
    }

    private static void faultAt(String text, int want) {
        Check.due("fault of " + text, Calls.faultOf(new SoftStairs(), text), want);
    }

    private static void fault() {
        Check.due("the empty pad", new SoftStairs().fault(), 0);
        for (char sign = 33; sign <= 126; sign++) {
            boolean letter = sign >= 'a' && sign <= 'd' || sign >= 'A' && sign <= 'D';
            boolean opens = sign == '(' || sign == '!';
            faultAt(String.valueOf(sign), letter ? SoftStairs.NONE : opens ? 1 : 0);
            boolean joins = sign == '&' || sign == '|';
            faultAt("a" + sign, joins ? 2 : 1);
            faultAt("(a" + sign, joins || sign == ')' ? sign == ')' ? SoftStairs.NONE : 3 : 2);
            faultAt("!" + sign, letter ? SoftStairs.NONE : opens ? 2 : 1);
            faultAt("a&" + sign, letter ? SoftStairs.NONE : opens ? 3 : 2);
            faultAt("a|" + sign, letter ? SoftStairs.NONE : opens ? 3 : 2);
            faultAt("(" + sign, letter || opens ? 2 : 1);
            faultAt("(a)" + sign, joins ? 4 : 3);
        }
        faultAt("(a)", SoftStairs.NONE);
        faultAt("(a", 2);
        faultAt("a)", 1);
        faultAt("((a)", 4);
        faultAt("(a))", 3);
        faultAt("()", 1);
        faultAt("!(a|b)&!!c|D", SoftStairs.NONE);
        faultAt("a||b", 2);
        faultAt("a&&b", 2);
        faultAt("a&|b", 2);
        faultAt("a!b", 1);
        faultAt("a(b)", 1);
        faultAt("e)", 0);
        faultAt("a|e|)", 2);
        faultAt(Calls.times("(", 60), 60);
        faultAt(Calls.times("!", 60), 60);
        faultAt(Calls.times("a&", 30), 60);
        faultAt(Calls.times("a|", 29) + "bb", 59);
    }

    private static void load() {
        SoftStairs x = new SoftStairs();
        Check.due("the empty pad", x.load(), SoftStairs.BAD_TEXT);
        x.put(Calls.packed("a|"));
        Check.due("a fault", x.load(), SoftStairs.BAD_TEXT);
        Check.due("the pad stays", x.count(18), 2);
        Check.due("the rule stays", x.rule(0), 7);
        Check.due("not a change", x.count(19), 0);
        x.put(Calls.packed("b&c"));
        Check.due("a rule", x.load(), 5);
        Check.due("the pad is empty", x.count(18), 0);
        Check.due("a change", x.count(19), 1);
        Check.due("no rule any more", x.load(), SoftStairs.BAD_TEXT);
        Check.due("& before |", x.wouldHold(1), 1);
        Check.due("b alone", x.wouldHold(4), 0);
        Check.due("b and c", x.wouldHold(20), 1);
        x.undo();
        Check.due("the rule of before", x.rule(0), 7);
        Check.due("the pad does not come back", x.count(18), 0);
    }

    private static void undo() {
        Check.due("nothing to undo", new SoftStairs().undo(), SoftStairs.NOT_POSSIBLE);
        for (int left = 0; left < 6; left++) {
            int made = left;
            Check.due("changes", States.made(x -> changes(x, made)).count(19), Math.min(6, 3 + made));
            States.sameStairs("as before change " + made, x -> changes(x, made), x -> {
                changes(x, 6);
                States.undo(x, 6 - made);
            });
        }
        SoftStairs x = States.made(s -> changes(s, 6));
        for (int i = 5; i >= 0; i--) {
            Check.due("undo", x.undo(), i);
            Check.due("can be undone", x.count(19), i);
        }
        Check.due("no more", x.undo(), SoftStairs.NOT_POSSIBLE);
        Check.due("still two", x.count(1), 2);
        Check.due("a change again", x.come(7), 3);
        Check.due("undone", x.undo(), 0);
        Check.due("two", x.count(1), 2);
    }

    private static void changes(SoftStairs x, int number) {
        x.put(Calls.packed("a"));
        x.come(80);
        x.come(90);
        x.pass(3);
        for (int i = 0; i < number; i++) {
            change(x, i);
        }
    }

    private static void change(SoftStairs x, int number) {
        switch (number) {
            case 0: x.set(SoftStairs.SLOW, 20); break;
            case 1: x.sense(1, 1, 1); break;
            case 2: x.load(); break;
            case 3: x.pass(200); break;
            case 4: x.stop(); break;
            default: x.pass(20); break;
        }
    }

    private static void undoLimit() {
        SoftStairs x = new SoftStairs();
        for (int i = 1; i <= 15; i++) {
            x.come(i);
            Check.due("at most 6", x.count(19), Math.min(6, i));
        }
        for (int i = 5; i >= 0; i--) {
            Check.due("undo", x.undo(), i);
        }
        Check.due("nine are left", x.count(1), 9);
        Check.due("no more", x.undo(), SoftStairs.NOT_POSSIBLE);
        Check.due("the same value is a change, too", x.set(SoftStairs.FULL, 50), 50);
        Check.due("one", x.count(19), 1);
        x.sense(0, 0, 0);
        Check.due("two", x.count(19), 2);
        x.undo();
        x.come(1);
        Check.due("a change behind an undo", x.count(19), 2);
        x.undo();
        x.undo();
        Check.due("nine again", x.count(1), 9);
    }

    private static void undoLeavesPadAndSlots() {
        SoftStairs x = new SoftStairs();
        x.come(5);
        x.save(0);
        x.put(Calls.packed("ab"));
        x.undo();
        Check.due("the pad stays", x.count(18), 2);
        Check.due("the slot stays", x.restore(0), 1);
        Check.due("a restore can be undone", x.undo(), 0);
        Check.due("nobody", x.count(1), 0);
    }

    private static void errorsAreNoChanges() {
        SoftStairs x = new SoftStairs();
        x.come(80);
        x.pass(9);
        x.stop();
        String before = Calls.seen(x);
        x.set(7, 1);
        x.set(0, 0);
        x.come(5);
        x.come(0);
        x.sense(4, 0, 1);
        x.sense(0, 0, 5);
        x.stop();
        x.restart();
        x.pass(0);
        x.load();
        x.restore(1);
        x.restore(2);
        x.save(2);
        Check.due("no change was recorded", x.count(19), 3);
        Check.holds("nothing is different", before.equals(Calls.seen(x)));
    }

    private static void save() {
        SoftStairs x = new SoftStairs();
        Check.due("save(-1)", x.save(-1), SoftStairs.BAD_VALUE);
        Check.due("save(2)", x.save(2), SoftStairs.BAD_VALUE);
        Check.due("save(0), nobody", x.save(0), 0);
        x.come(5);
        x.come(6);
        Check.due("save(1), two", x.save(1), 2);
        Check.due("save is no change", x.count(19), 2);
        x.come(7);
        Check.due("the slot is a state of its own", x.restore(1), 2);
        x.come(8);
        x.come(9);
        Check.due("overwritten", x.save(1), 4);
        Check.due("the other slot", x.restore(0), 0);
        Check.due("the latest one saved", x.restore(1), 4);
    }

    private static void restore() {
        SoftStairs x = new SoftStairs();
        Check.due("restore(-1)", x.restore(-1), SoftStairs.BAD_VALUE);
        Check.due("restore(2)", x.restore(2), SoftStairs.BAD_VALUE);
        Check.due("restore(0), not saved", x.restore(0), SoftStairs.NOT_POSSIBLE);
        Check.due("restore(1), not saved", x.restore(1), SoftStairs.NOT_POSSIBLE);
        Check.due("not a change", x.count(19), 0);
        Calls.loadRule(x, "a&!b|C");
        x.set(SoftStairs.DOUBT, 2);
        x.sense(0, 1, 1);
        x.sense(1, 1, 1);
        x.come(100);
        x.pass(7);
        x.stop();
        x.pass(3);
        x.save(0);
        String saved = Calls.seen(x);
        Check.due("only slot 0 was saved", x.restore(1), SoftStairs.NOT_POSSIBLE);
        x.pass(200);
        x.restart();
        x.set(SoftStairs.DOUBT, 9);
        x.sense(0, 1, 0);
        Calls.loadRule(x, "d");
        x.pass(60);
        x.stop();
        x.put(Calls.packed("xy"));
        String other = Calls.seen(x);
        Check.due("restore", x.restore(0), 1);
        Check.holds("as it was saved", saved.equals(Calls.seen(x)));
        Check.due("the pad stays", x.count(18), 2);
        Check.due("the history stays", x.count(19), 6);
        x.pass(5);
        Check.due("kept: restore again", x.restore(0), 1);
        Check.holds("as it was saved, again", saved.equals(Calls.seen(x)));
        x.undo();
        x.undo();
        x.undo();
        Check.holds("undone", other.equals(Calls.seen(x)));
    }
}
