/** Short ways to bring an object of SoftStairs into a state. */
final class Calls {
    private Calls() { }

    /** The last eight or fewer characters of a text as put() takes them. */
    static long packed(String text) {
        long number = 0;
        for (int i = 0; i < text.length(); i++) {
            number = number << 8 | text.charAt(i);
        }
        return number;
    }

    static void write(SoftStairs x, String text) {
        for (int i = 0; i < text.length(); i += 8) {
            x.put(packed(text.substring(i, Math.min(text.length(), i + 8))));
        }
    }

    static int loadRule(SoftStairs x, String text) {
        x.wipe();
        write(x, text);
        return x.load();
    }

    static int faultOf(SoftStairs x, String text) {
        x.wipe();
        write(x, text);
        return x.fault();
    }

    static SoftStairs withRule(String text) {
        SoftStairs x = new SoftStairs();
        loadRule(x, text);
        return x;
    }

    static void come(SoftStairs x, int number, int weight) {
        for (int i = 0; i < number; i++) {
            x.come(weight);
        }
    }

    static void senseAll(SoftStairs x, int sensors) {
        for (int bit = 0; bit < 8; bit++) {
            x.sense(bit / 2, bit % 2, sensors >> bit & 1);
        }
    }

    /** Lets ticks pass up to a tick, with as few calls as it takes. */
    static void passTo(SoftStairs x, int tick) {
        for (int left = tick - x.count(0); left > 0; left -= 999) {
            x.pass(Math.min(999, left));
        }
    }

    static String times(String text, int number) {
        StringBuilder all = new StringBuilder();
        for (int i = 0; i < number; i++) {
            all.append(text);
        }
        return all.toString();
    }

    /** What undo() takes back and save() keeps, in a text: two objects in the same state have the same. */
    static String seen(SoftStairs x) {
        StringBuilder all = new StringBuilder();
        for (int what = 0; what <= 17; what++) {
            all.append(x.count(what)).append(' ');
        }
        for (int who = 0; who < x.count(1); who++) {
            all.append(x.of(who, 0)).append('/').append(x.of(who, 1)).append('/').append(x.of(who, 2)).append(' ');
        }
        for (int spot = 0; spot < 4; spot++) {
            all.append(x.ofSpot(spot, 0)).append(x.ofSpot(spot, 1)).append('/').append(x.ofSpot(spot, 2)).append(' ');
        }
        for (int stop = 0; stop < 6 && x.ofStop(stop, 0) >= 0; stop++) {
            for (int what = 0; what < 5; what++) {
                all.append(x.ofStop(stop, what)).append(' ');
            }
        }
        for (int what = 0; what < 5; what++) {
            all.append(x.rule(what)).append(' ');
        }
        return all.append(truth(x)).toString();
    }

    /** Some of what the rule answers: no object is used for more than 512 calls, so not all 256 sets are asked. */
    private static String truth(SoftStairs x) {
        StringBuilder all = new StringBuilder();
        int[] sets = {0, 1, 2, 3, 4, 12, 16, 48, 64, 192, 15, 51, 195, 255};
        for (int set : sets) {
            all.append(x.wouldHold(set));
        }
        return all.append(' ').append(x.fewest()).toString();
    }

    /** Everything that an object tells, the pad and the length of the history, too. */
    static String all(SoftStairs x) {
        return seen(x) + " pad " + x.count(18) + "/" + x.fault() + " history " + x.count(19);
    }
}
