import java.util.List;
import java.util.function.Consumer;
import java.util.function.ToIntFunction;

/** The boundary cases of promises 18 to 24, a test for each sentence. */
public final class TextsEdgesTest {
    private static final int LOWEST = Integer.MIN_VALUE, HIGHEST = Integer.MAX_VALUE;
    private static final List<Consumer<SoftStairs>> RUNS = List.of(
        x -> { }, States::running, States::stopping, States::stopped, TextsEdgesTest::usedForLong);
    private static final List<ToIntFunction<SoftStairs>> CHANGES = List.of(
        x -> x.set(SoftStairs.HEAVY, 1), x -> x.come(44), x -> x.sense(0, 1, 1), SoftStairs::stop, SoftStairs::restart,
        x -> x.pass(150), SoftStairs::load, x -> x.restore(0), x -> x.restore(1));

    private TextsEdgesTest() { }

    public static void main(String[] args) {
        oneTo8Characters();
        noCharacter();
        codesFrom33To126();
        bitsAboveTheEnd();
        padWouldBeLonger();
        putIsNoChange();
        lengthThatItHad();
        noFault();
        loadedAtItsEnds();
        padHasAFault();
        noMoreThan6States();
        noneToUndo();
        everyChangeIsRecorded();
        onlyChangesAreRecorded();
        asItWasBefore();
        exceptPadAndSlots();
        historyBehindAnUndo();
        savedInTwoSlots();
        noSuchSlotToSave();
        everythingIsSaved();
        overwritten();
        noSuchSlotToRestore();
        nothingWasSaved();
        slotKeepsIt();
        restoreIsAChange();
        Check.end("TextsEdgesTest");
    }

    private static void empty(SoftStairs x) {
        States.running(x);
        x.wipe();
    }

    private static void oneTo8Characters() {
        Check.about("its lowest 8 bits are the last character, the next 8 bits the one before, and so on (1 to "
            + "8 characters)");
        String text = "a&!b|(C)";
        int[] faults = {SoftStairs.NONE, 2, 3, SoftStairs.NONE, 5, 6, 7, SoftStairs.NONE};
        for (int length = 1; length <= 8; length++) {
            SoftStairs x = new SoftStairs();
            Check.due("put of " + length, x.put(Calls.packed(text.substring(0, length))), length);
            Check.due("length", x.count(18), length);
            Check.due("fault of " + text.substring(0, length), x.fault(), faults[length - 1]);
        }
        SoftStairs x = new SoftStairs();
        x.put(Calls.packed(text));
        Check.due("parts", x.load(), 6);
        Check.due("a without b", x.wouldHold(1), 1);
        Check.due("b without a", x.wouldHold(4), 0);
        Check.due("one of C", x.wouldHold(16), 0);
        Check.due("both of C", x.wouldHold(48), 1);
    }

    private static void noCharacter() {
        Check.about("BAD_VALUE if there is no character");
        States.unchanged("put(0)", States::running, x -> x.put(0L), SoftStairs.BAD_VALUE);
        States.unchanged("put(0), empty pad", TextsEdgesTest::empty, x -> x.put(0L), SoftStairs.BAD_VALUE);
        States.unchanged("put(0), full pad", TextsEdgesTest::full, x -> x.put(0L), SoftStairs.BAD_VALUE);
    }

    private static void codesFrom33To126() {
        Check.about("BAD_VALUE if a code is not 33 to 126");
        int[] bad = {1, 31, 32, 127, 128, 254, 255};
        int[] good = {33, 34, 125, 126};
        for (int length = 1; length <= 8; length++) {
            long text = Calls.packed("!!!!!!!a".substring(8 - length));
            for (int at = 0; at < length; at++) {
                long hole = text & ~(255L << 8 * at);
                for (long code : bad) {
                    long characters = hole | code << 8 * at;
                    States.unchanged("put(" + characters + ")", TextsEdgesTest::empty, x -> x.put(characters),
                        SoftStairs.BAD_VALUE);
                }
                for (long code : good) {
                    long characters = hole | code << 8 * at;
                    Check.due("put(" + characters + ")", new SoftStairs().put(characters), length);
                }
            }
        }
    }

    private static void bitsAboveTheEnd() {
        Check.about("BAD_VALUE if a bit above 8 bits that are 0 is not 0");
        for (int length = 0; length <= 6; length++) {
            long text = Calls.packed("!!!!!a".substring(6 - length));
            for (int bit = 8 * length + 8; bit < 64; bit++) {
                long characters = text | 1L << bit;
                Check.due("put(" + characters + ")", new SoftStairs().put(characters), SoftStairs.BAD_VALUE);
            }
        }
        long[] bad = {0x6100L, 0x610061L, 0x6100000000000061L, 0x8000000000000061L, 0x6161616161616100L,
            0x6100616161616161L, Long.MIN_VALUE, 1L << 63 | 0x6161L};
        for (long characters : bad) {
            States.unchanged("put(" + characters + ")", States::running, x -> x.put(characters), SoftStairs.BAD_VALUE);
        }
    }

    /** A pad of 60 characters that is a rule. */
    private static void full(SoftStairs x) {
        empty(x);
        Calls.write(x, Calls.times("!", 59) + "d");
    }

    private static void allBut7(SoftStairs x) {
        empty(x);
        Calls.write(x, Calls.times("!", 52) + "d");
    }

    private static void padWouldBeLonger() {
        Check.about("TOO_MANY if the pad would be longer than 60");
        States.unchanged("60 and one", TextsEdgesTest::full, x -> x.put(Calls.packed("a")), SoftStairs.TOO_MANY);
        States.unchanged("60 and eight", TextsEdgesTest::full, x -> x.put(Calls.packed("!!!!!!!a")), SoftStairs.TOO_MANY);
        States.unchanged("60 and a bad one", TextsEdgesTest::full, x -> x.put(32L), SoftStairs.BAD_VALUE);
        States.unchanged("53 and eight", TextsEdgesTest::allBut7, x -> x.put(Calls.packed("&!!!!!!a")), SoftStairs.TOO_MANY);
        SoftStairs x = States.made(TextsEdgesTest::allBut7);
        Check.due("53 and seven", x.put(Calls.packed("&!!!!!a")), 60);
        Check.due("all of them are read", x.load(), 60);
        Check.due("from the start again", x.put(Calls.packed("!!!!!!!a")), 8);
        Check.due("eight", x.load(), 8);
    }

    private static void putIsNoChange() {
        Check.about("put, wipe, fault: no changes");
        Consumer<SoftStairs> run = States::running;
        States.sameStairs("put and wipe", run, run.andThen(x -> x.put(33L)).andThen(SoftStairs::wipe));
        States.same("put", TextsEdgesTest::empty, x -> {
            empty(x);
            x.put(Calls.packed("ab"));
            x.fault();
            x.wipe();
        });
    }

    private static void lengthThatItHad() {
        Check.about("Empties the pad, and returns the length that it had");
        SoftStairs x = new SoftStairs();
        Check.due("wipe(), new", x.wipe(), 0);
        x.put(Calls.packed("a"));
        Check.due("wipe(), one", x.wipe(), 1);
        Check.due("wipe(), none", x.wipe(), 0);
        SoftStairs y = States.made(TextsEdgesTest::full);
        Check.due("wipe(), 60", y.wipe(), 60);
        Check.due("empty", y.count(18), 0);
        Check.due("the fault of nothing", y.fault(), 0);
        y.put(Calls.packed("b"));
        Check.due("nothing of it is left", y.load(), 1);
        Check.due("its letters", y.rule(3), 2);
        Check.due("wipe() behind load()", y.wipe(), 0);
    }

    private static void noFault() {
        Check.about("Returns the fault of the pad, NONE if there is none");
        SoftStairs x = new SoftStairs();
        Check.due("empty", x.fault(), 0);
        x.put(Calls.packed("a"));
        Check.due("a", x.fault(), SoftStairs.NONE);
        x.put(Calls.packed("|"));
        Check.due("a|", x.fault(), 2);
        x.put(Calls.packed("|"));
        Check.due("a||", x.fault(), 2);
        x.put(Calls.packed(")"));
        Check.due("a||): the first one", x.fault(), 2);
        Check.due("fault of 60", States.made(TextsEdgesTest::full).fault(), SoftStairs.NONE);
    }

    private static void loadedAtItsEnds() {
        Check.about("Makes the rule that of the pad, and empties the pad. Returns how many parts the rule has");
        String[] texts = {"a", "(D)", Calls.times("(", 29) + "c" + Calls.times(")", 29), Calls.times("!", 59) + "d",
            Calls.times("a|", 29) + "!a", Calls.times("B&", 29) + "a"};
        int[] parts = {1, 1, 1, 60, 60, 59};
        for (int i = 0; i < texts.length; i++) {
            SoftStairs x = new SoftStairs();
            Check.due("load of " + texts[i], Calls.loadRule(x, texts[i]), parts[i]);
            Check.due("the rule's parts", x.rule(0), parts[i]);
            Check.due("the pad", x.count(18), 0);
            Check.due("a change", x.count(19), 1);
            Check.due("load again", x.load(), SoftStairs.BAD_TEXT);
            Check.due("undo()", x.undo(), 0);
            Check.due("the rule of before", x.rule(0), 7);
            Check.due("the pad does not come back", x.count(18), 0);
        }
    }

    private static void padHasAFault() {
        Check.about("BAD_TEXT if the pad has a fault (then it stays)");
        String[] texts = {"", "(", "a&", "a)", "ab", "e", "a|!", "(a|b", Calls.times("!", 60), Calls.times("a", 60)};
        for (String text : texts) {
            Consumer<SoftStairs> run = x -> {
                empty(x);
                Calls.write(x, text);
            };
            States.unchanged("load of \"" + text + "\"", run, SoftStairs::load, SoftStairs.BAD_TEXT);
        }
        SoftStairs x = new SoftStairs();
        x.put(Calls.packed("a|!"));
        x.load();
        x.put(Calls.packed("b"));
        Check.due("what stayed, and b", x.load(), 4);
    }

    /** Change number 0 and up: each is of another kind, and leads to another state. */
    private static void change(SoftStairs x, int number) {
        switch (number % 9) {
            case 0: x.come(10 + number); break;
            case 1: x.set(SoftStairs.FULL, 20 + number); break;
            case 2: x.sense(2, number / 9 % 2, 1); break;
            case 3: x.pass(2); break;
            case 4: x.stop(); break;
            case 5: x.pass(20); break;
            case 6: x.restart(); break;
            case 7: Calls.loadRule(x, "d&" + Calls.times("!", number) + "D"); break;
            default: x.restore(0); break;
        }
    }

    private static void changes(SoftStairs x, int number) {
        x.set(SoftStairs.DOUBT, 99);
        x.save(0);
        for (int i = 0; i < number; i++) {
            change(x, i);
        }
    }

    private static void noMoreThan6States() {
        Check.about("A history of at most 6 states is kept; when one more is recorded, the oldest one is dropped");
        for (int number = 0; number <= 20; number++) {
            int made = number;
            int kept = Math.min(6, 1 + number);
            Check.due("kept of " + (1 + number), States.made(x -> changes(x, made)).count(19), kept);
            for (int undone = 1; undone < kept; undone++) {
                int undos = undone;
                Consumer<SoftStairs> back = x -> {
                    changes(x, made);
                    States.undo(x, undos);
                };
                Check.due("kept behind undo()", States.made(back).count(19), kept - undone);
                States.sameStairs(undone + " undone of " + number, x -> changes(x, made - undos), back);
                States.differ(undone + " undone of " + number, x -> changes(x, made - undos + 1), back);
            }
        }
    }

    private static void noneToUndo() {
        Check.about("NOT_POSSIBLE if there is none");
        States.unchanged("undo(), new", x -> { }, SoftStairs::undo, SoftStairs.NOT_POSSIBLE);
        for (int number = 1; number <= 8; number++) {
            int made = number;
            int kept = Math.min(6, number);
            Consumer<SoftStairs> run = x -> {
                Calls.come(x, made, 3);
                x.put(Calls.packed("a"));
                States.undo(x, kept);
            };
            Check.due("people left of " + number, States.made(run).count(1), number - kept);
            States.unchanged("undo(), once too often", run, SoftStairs::undo, SoftStairs.NOT_POSSIBLE);
        }
        SoftStairs x = new SoftStairs();
        x.come(1);
        Check.due("the only one", x.undo(), 0);
    }

    private static void everyChangeIsRecorded() {
        Check.about("each method that is a change, and returns no error, records the state before it (also if "
            + "nothing is different then)");
        SoftStairs x = new SoftStairs();
        x.save(0);
        x.set(SoftStairs.FULL, 50);
        Check.due("set(FULL, 50)", x.count(19), 1);
        x.sense(0, 0, 0);
        Check.due("sense(0, 0, 0)", x.count(19), 2);
        x.restore(0);
        Check.due("restore(0)", x.count(19), 3);
        Calls.loadRule(x, "A|B|C|D");
        Check.due("load()", x.count(19), 4);
        x.come(1);
        Check.due("come(1)", x.count(19), 5);
        x.stop();
        Check.due("stop()", x.count(19), 6);
        SoftStairs y = new SoftStairs();
        y.stop();
        Check.due("stop()", y.count(19), 1);
        y.pass(1);
        Check.due("pass(1)", y.count(19), 2);
        y.restart();
        Check.due("restart()", y.count(19), 3);
        Check.due("undo()", y.undo(), 2);
        Check.due("stopped again", y.count(4), 2);
        States.undo(x, 5);
        Check.due("five of six are undone", x.count(19), 1);
        Check.due("nothing is different behind the last one", x.undo(), 0);
        Check.holds("as at first", Calls.seen(x).equals(Calls.seen(new SoftStairs())));
    }

    private static void onlyChangesAreRecorded() {
        Check.about("each method that is a change, and returns no error, records (and no other one)");
        States.unchanged("save(1), what is in it", TextsEdgesTest::savedAsItIs, x -> x.save(1), 2);
        SoftStairs x = new SoftStairs();
        x.come(5);
        x.put(33L);
        x.wipe();
        x.fault();
        x.load();
        x.save(1);
        x.undo();
        x.undo();
        Check.due("neither texts, nor save(), nor undo()", x.count(19), 0);
    }

    private static void savedAsItIs(SoftStairs x) {
        States.running(x);
        x.save(1);
    }

    /** Some are off, ticks passed with nobody there, and one has just stepped on. */
    private static void usedForLong(SoftStairs x) {
        States.stopped(x);
        x.restart();
        x.pass(150);
        x.stop();
        x.pass(20);
        x.restart();
        x.pass(5);
        x.come(33);
    }

    private static void asItWasBefore() {
        Check.about("everything is as it was before it");
        int compared = 0;
        for (Consumer<SoftStairs> run : RUNS) {
            for (ToIntFunction<SoftStairs> change : CHANGES) {
                if (change.applyAsInt(States.made(run)) >= 0) {
                    String label = "change " + CHANGES.indexOf(change) + " of run " + RUNS.indexOf(run);
                    States.sameStairs(label, run, run.andThen(change::applyAsInt).andThen(SoftStairs::undo));
                    compared++;
                }
            }
        }
        Check.due("changes that can be made", compared, 5 + 8 + 6 + 7 + 8);
    }

    private static void everythingIsSaved() {
        Check.about("Saves everything except the pad, the history and the slots in a slot");
        for (Consumer<SoftStairs> run : RUNS) {
            for (int number = 0; number <= 1; number++) {
                int slot = number;
                String label = "run " + RUNS.indexOf(run) + ", slot " + slot;
                States.sameStairs(label, run, run.andThen(x -> {
                    x.save(slot);
                    for (ToIntFunction<SoftStairs> change : CHANGES.subList(0, 7)) {
                        change.applyAsInt(x);
                    }
                    x.restore(slot);
                }));
            }
        }
    }

    private static void exceptPadAndSlots() {
        Check.about("everything except the pad, the slots and the history is as it was before it");
        SoftStairs x = new SoftStairs();
        x.come(5);
        x.put(Calls.packed("a|b"));
        x.come(6);
        x.save(0);
        x.come(7);
        x.save(1);
        Check.due("undo()", x.undo(), 2);
        Check.due("undo()", x.undo(), 1);
        Check.due("one is left", x.count(1), 1);
        Check.due("the pad stays", x.count(18), 3);
        Check.due("slot 0 stays", x.restore(0), 2);
        Check.due("slot 1 stays", x.restore(1), 3);
        Check.due("load()", x.load(), 3);
        Check.due("undo()", x.undo(), 3);
        Check.due("the pad stays empty", x.count(18), 0);
    }

    private static void historyBehindAnUndo() {
        Check.about("Undoes the latest change (also behind an undo, from a full history)");
        SoftStairs x = new SoftStairs();
        for (int round = 0; round < 9; round++) {
            Calls.come(x, 8, 1);
            Check.due("full, round " + round, x.count(19), 6);
            States.undo(x, 4);
            Check.due("two are left", x.count(19), 2);
            Check.due("people", x.count(1), 4);
            x.come(2);
            Check.due("three", x.count(19), 3);
            States.undo(x, 3);
            Check.due("none", x.count(19), 0);
            Check.due("people", x.count(1), 2);
            x.pass(60);
            Check.due("nobody", x.count(1), 0);
        }
    }

    private static void savedInTwoSlots() {
        Check.about("save: Returns how many people there are");
        for (int slot = 0; slot <= 1; slot++) {
            SoftStairs x = new SoftStairs();
            Check.due("save(" + slot + "), nobody", x.save(slot), 0);
            Calls.come(x, 20, 9);
            Check.due("save(" + slot + "), 20", x.save(slot), 20);
            Check.due("the other slot", x.restore(1 - slot), SoftStairs.NOT_POSSIBLE);
        }
    }

    private static void noSuchSlotToSave() {
        Check.about("save: BAD_VALUE if there is no such slot (0 or 1)");
        int[] none = {LOWEST, -2, -1, 2, 3, HIGHEST};
        for (int slot : none) {
            States.unchanged("save(" + slot + ")", x -> x.come(4), x -> x.save(slot), SoftStairs.BAD_VALUE);
            States.unchanged("save(" + slot + "), both saved", States::running, x -> x.save(slot), SoftStairs.BAD_VALUE);
        }
    }

    private static void overwritten() {
        Check.about("Saves everything except the pad, the history and the slots in a slot, and overwrites what "
            + "was saved there");
        for (int number = 0; number <= 1; number++) {
            int slot = number;
            States.sameStairs("overwritten, slot " + slot, States::stopped, x -> {
                x.come(5);
                x.save(slot);
                x.undo();
                States.stopped(x);
                x.save(slot);
                x.set(SoftStairs.PER, 7);
                x.sense(0, 1, 1);
                x.pass(9);
                x.restart();
                x.come(99);
                x.pass(99);
                Calls.loadRule(x, "D");
                x.restore(slot);
            });
        }
        SoftStairs x = new SoftStairs();
        x.put(Calls.packed("ab"));
        x.come(1);
        x.save(0);
        x.put(Calls.packed("c"));
        x.come(1);
        x.restore(0);
        Check.due("not the pad", x.count(18), 3);
        Check.due("nor the history", x.count(19), 3);
    }

    private static void noSuchSlotToRestore() {
        Check.about("restore: BAD_VALUE if there is no such slot (0 or 1)");
        int[] none = {LOWEST, -2, -1, 2, 3, HIGHEST};
        for (int slot : none) {
            States.unchanged("restore(" + slot + ")", x -> x.come(4), x -> x.restore(slot), SoftStairs.BAD_VALUE);
            States.unchanged("restore(" + slot + "), both saved", States::running, x -> x.restore(slot),
                SoftStairs.BAD_VALUE);
        }
    }

    private static void nothingWasSaved() {
        Check.about("NOT_POSSIBLE if nothing was saved in it");
        for (int number = 0; number <= 1; number++) {
            int slot = number;
            States.unchanged("restore(" + slot + "), new", x -> { }, x -> x.restore(slot), SoftStairs.NOT_POSSIBLE);
            Consumer<SoftStairs> run = x -> {
                x.come(4);
                x.save(1 - slot);
                x.save(2 + slot);
                x.pass(5);
            };
            States.unchanged("restore(" + slot + ")", run, x -> x.restore(slot), SoftStairs.NOT_POSSIBLE);
            Check.due("the other one", States.made(run).restore(1 - slot), 1);
        }
    }

    private static void slotKeepsIt() {
        Check.about("Restores what was saved last in a slot, which keeps it");
        SoftStairs x = new SoftStairs();
        x.come(1);
        x.save(0);
        x.come(2);
        x.save(1);
        for (int round = 0; round < 9; round++) {
            Check.due("restore(0)", x.restore(0), 1);
            x.come(3);
            x.come(4);
            x.pass(40);
            Check.due("all are off", x.count(1), 0);
            Check.due("restore(1)", x.restore(1), 2);
            Check.due("in the tick of then", x.count(0), 0);
            Check.due("the weight of then", x.of(1, 1), 2);
        }
    }

    private static void restoreIsAChange() {
        Check.about("Restores what was saved last in a slot. This is a change");
        States.sameStairs("undone", States::running, x -> {
            States.running(x);
            x.restore(0);
            x.undo();
        });
        States.sameStairs("slot 0", x -> {
            x.come(70);
            x.pass(3);
        }, x -> {
            States.running(x);
            x.restore(0);
        });
        SoftStairs y = States.made(States::running);
        y.restore(0);
        Check.due("six changes", y.count(19), 6);
        y.undo();
        Check.due("five", y.count(19), 5);
        Check.due("the pad stays", y.count(18), 4);
    }
}
