/** The edges of draws and VOICES (section 3 of the Terms), promises 23 to 25: each sentence has a test of its own. */
final class VoiceEdgeTest {
    private static final int LEAST = -2147483648;
    private static final int MOST = 2147483647;

    private VoiceEdgeTest() {
    }

    public static void main(String[] args) throws Exception {
        Due.each(VoiceEdgeTest.class);
    }

    private static NineLedges eight(int km) {
        NineLedges x = new NineLedges();
        for (int i = 0; i < 8; i++) {
            x.goer(km, 0, 1, 0);
        }
        return x;
    }

    private static void bodies(NineLedges x, int... bodies) {
        Due.due("BODIES", x.count(9), bodies.length);
        for (int i = 0; i < bodies.length; i++) {
            Due.due("BODY " + i, x.trace(i), bodies[i]);
        }
        Due.due("no more", x.trace(bodies.length), Due.NONE);
    }

    /** Promise 23: "z becomes v: what it was (any number)." */
    static void anySeed() {
        NineLedges x = new NineLedges();
        int was = 1;
        for (int v : new int[] {0, LEAST, MOST, -1, Due.BEYOND, Due.KIND, 1}) {
            Due.due("seed(" + v + ")", x.seed(v), was);
            Due.due("z", x.count(10), v);
            was = v;
        }
        Due.due("no ERROR", Due.errors(x), 0);
    }

    /** "n is the number, m as told": the least and the greatest of both. */
    static void numberAndM() {
        NineLedges x = eight(0);
        Due.due("n 0", x.voice(0, 0, 100), 100);
        Due.due("n 7", x.voice(7, 0, 100), 107);
        Due.due("m 0", x.voice(7, 2, 100), 100);
        x.become(7, 9);
        Due.due("m 9", x.voice(7, 2, 100), 91);
        Due.due("no GOER 8", x.voice(8, 0, 0), Due.BEYOND);
    }

    /** "a number x (ints that go round)": + and - n or m. */
    static void goesRoundByAdding() {
        NineLedges x = eight(9);
        Due.due("n 0", x.voice(0, 0, MOST), MOST);
        Due.due("n 1", x.voice(1, 0, MOST), LEAST);
        Due.due("n 7", x.voice(7, 0, MOST), LEAST + 6);
        Due.due("m 9", x.voice(0, 2, LEAST), MOST - 8);
        Due.due("m 9", x.voice(0, 2, LEAST + 9), LEAST);
        x.become(0, 40);
        Due.due("x + 1", x.voice(0, 1, MOST), -1);
    }

    /** The same: by 2 and by 3. */
    static void goesRoundByMultiplying() {
        NineLedges x = eight(0);
        Due.due("2", x.voice(0, 1, 1073741823), MOST - 1);
        Due.due("2", x.voice(0, 1, 1073741824), LEAST);
        Due.due("2", x.voice(0, 1, LEAST), 0);
        x.become(0, 20);
        Due.due("3", x.voice(0, 0, 715827882), MOST - 1);
        Due.due("3", x.voice(0, 0, 715827883), LEAST + 1);
        Due.due("3", x.voice(0, 0, MOST), MOST - 2);
        Due.due("3 and 2", x.voice(0, 1, MOST), -6);
    }

    /** The same: the least int is its own opposite. */
    static void goesRoundByTheSign() {
        NineLedges x = eight(30);
        Due.due("40", x.voice(0, 2, LEAST), LEAST);
        Due.due("40", x.voice(0, 2, LEAST + 1), MOST);
        x.become(7, 60);
        Due.due("70", x.voice(7, 2, LEAST), LEAST + 7);
        x.become(0, 31);
        Due.due("40 with m 1", x.voice(0, 2, LEAST), LEAST + 1);
    }

    /** An answer that looks like an ERROR is none. */
    static void anyNumber() {
        NineLedges x = eight(0);
        for (int v : new int[] {Due.BEYOND, Due.NONE, Due.STATE, Due.FULL, Due.KIND, LEAST}) {
            Due.due("goes", x.voice(0, 0, v), v);
        }
        Due.due("no ERROR", Due.errors(x), 0);
        bodies(x, 10);
    }

    /** "goes(..) is the BODY of its KIND, or of the next KIND above that has one": all for n 7, m 5, x 4. */
    static void eachKindAndAct() {
        int[][] all = {
            // goes, blows, yields, tells
            {11, 22, -1, 22 ^ -1}, {11, 22 - -4, -1, 26 ^ -1}, {33, 66, -1, 66 ^ -1}, {11, 22, 1, 22 ^ 1},
            {11, 24 - -4, -1, 28 ^ -1}, {33, 66, -1, (66 ^ -1) - 27}, {11, 22, 1 ^ 7, 22 - (22 ^ 6)},
        };
        for (int kind = 0; kind < 7; kind++) {
            NineLedges x = eight(10 * kind + 5);
            for (int act = 0; act < 4; act++) {
                Due.due("KIND " + kind + " act " + act, x.voice(7, act, 4), all[kind][act]);
            }
        }
    }

    /** A GOER that became another speaks as that one, wherever it is. */
    static void asItIsNow() {
        NineLedges x = eight(65);
        x.minutes(9);
        x.voice(0, 3, 1);
        Due.due("BLIND", x.count(9), 9);
        x.become(0, 5);
        x.voice(0, 3, 1);
        bodies(x, 13, 11, 10, 12);
        x.become(0, 45);
        x.voice(0, 3, 1);
        bodies(x, 13, 50, 20, 11, 10, 12, 12);
    }

    /** "THE TRACE: the numbers of BODIES of the latest voice(), as they began": the longest of all has nine. */
    static void longestTrace() {
        NineLedges x = eight(60);
        x.voice(0, 3, 1);
        bodies(x, 71, 11, 10, 13, 11, 10, 70, 40, 12);
        Due.due("none at 40", x.trace(40), Due.NONE);
        x.voice(0, 0, 1);
        bodies(x, 10);
        Due.due("nothing is left of the longer one", x.trace(8), Due.NONE);
    }

    /** "(what stands left is worked out first)". */
    static void leftFirst() {
        NineLedges x = eight(50);
        x.voice(0, 3, 1);
        bodies(x, 60, 13, 11, 30, 10, 12, 30, 10);
        x.become(0, 10);
        x.voice(0, 1, 1);
        bodies(x, 20, 11, 10, 12);
    }

    /** Promise 25: "NONE: there is none such"; ahead of any voice() there is none. */
    static void noTrace() {
        NineLedges x = new NineLedges();
        for (int i : new int[] {LEAST, -1, 0, 1, 39, 40, MOST}) {
            Due.due("trace(" + i + ")", x.trace(i), Due.NONE);
        }
        Due.due("BODIES", x.count(9), 0);
        Due.due("told", x.told(2), 7);
        x.goer(0, 0, 1, 0);
        x.voice(0, 2, 1);
        Due.due("trace(0)", x.trace(0), 12);
        Due.due("trace(1)", x.trace(1), Due.NONE);
        Due.due("trace(-1)", x.trace(-1), Due.NONE);
    }

    /** "BEYOND": THE TRACE is that of the latest voice() that was one. */
    static void refusedVoices() {
        NineLedges x = eight(10);
        x.voice(3, 1, 1);
        x.voice(8, 3, 1);
        x.voice(-1, 3, 1);
        x.voice(3, 4, 1);
        x.voice(3, -1, 1);
        bodies(x, 20, 11, 10, 12);
        Due.due("told", x.told(1), 4);
    }
}
