/** Promises 23 to 25: z, VOICES, THE TRACE. */
final class VoiceTest {
    private VoiceTest() {
    }

    public static void main(String[] args) throws Exception {
        Due.each(VoiceTest.class);
    }

    static void seed() {
        NineLedges x = new NineLedges();
        Due.due("seed", x.seed(-2000000000), 1);
        Due.due("seed", x.seed(7), -2000000000);
        Due.due("no ERROR", x.told(1), 0);
        Due.due("z", x.count(10), 7);
        x.loose(1);
        Due.due("z", x.count(10), 7 * 1103515245 + 12345);
    }

    private static NineLedges one(int kind) {
        NineLedges x = new NineLedges();
        x.goer(0, 0, 1, 0);
        x.goer(kind * 10 + 5, 0, 1, 0);
        return x;
    }

    /** GOER 1 with m 5, and x 4. */
    static void values() {
        int[][] all = {
            {5, 10, -1, -11}, {5, 14, -1, -15}, {15, 30, -1, -31}, {5, 10, 1, 11},
            {5, 16, -1, -17}, {15, 30, -1, -40}, {5, 10, 0, 0},
        };
        for (int kind = 0; kind < 7; kind++) {
            NineLedges x = one(kind);
            for (int act = 0; act < 4; act++) {
                Due.due("KIND " + kind + " act " + act, x.voice(1, act, 4), all[kind][act]);
            }
        }
    }

    private static void trace(int kind, int act, int... bodies) {
        NineLedges x = one(kind);
        x.voice(0, 3, 0);
        x.voice(1, act, 4);
        Due.due("BODIES of " + kind + " act " + act, x.count(9), bodies.length);
        for (int i = 0; i < bodies.length; i++) {
            Due.due("BODY " + i + " of " + kind + " act " + act, x.trace(i), bodies[i]);
        }
        Due.due("no more", x.trace(bodies.length), Due.NONE);
        Due.due("none such", x.trace(-1), Due.NONE);
    }

    static void traces() {
        trace(0, 0, 10);
        trace(0, 1, 11, 10);
        trace(0, 2, 12);
        trace(0, 3, 13, 11, 10, 12);
        trace(1, 0, 10);
        trace(1, 1, 20, 11, 10, 12);
        trace(1, 3, 13, 20, 11, 10, 12, 12);
        trace(2, 0, 30, 10);
        trace(2, 1, 11, 30, 10);
        trace(2, 3, 13, 11, 30, 10, 12);
        trace(3, 2, 40, 12);
        trace(3, 3, 13, 11, 10, 40, 12);
        trace(4, 1, 50, 20, 11, 10, 12);
        trace(4, 3, 13, 50, 20, 11, 10, 12, 12);
        trace(5, 0, 30, 10);
        trace(5, 3, 60, 13, 11, 30, 10, 12, 30, 10);
        trace(6, 2, 70, 40, 12);
        trace(6, 3, 71, 11, 10, 13, 11, 10, 70, 40, 12);
    }

    static void rounds() {
        NineLedges x = one(0);
        Due.due("goes round", x.voice(1, 0, 2147483647), -2147483648);
        Due.due("goes round", x.voice(1, 1, 2147483647), 0);
        Due.due("any number", x.voice(1, 0, -2000000001), -2000000000);
        Due.due("no ERROR", x.told(1) + x.told(2) + x.told(3) + x.told(4) + x.told(5), 0);
        NineLedges y = one(3);
        Due.due("goes round", y.voice(1, 2, -2147483643), -2147483648);
    }

    static void limits() {
        NineLedges x = one(0);
        x.voice(1, 1, 4);
        Due.due("goer", x.voice(2, 0, 0), Due.BEYOND);
        Due.due("goer", x.voice(-1, 0, 0), Due.BEYOND);
        Due.due("act", x.voice(0, 4, 0), Due.BEYOND);
        Due.due("act", x.voice(0, -1, 0), Due.BEYOND);
        Due.due("THE TRACE stays", x.count(9), 2);
        Due.due("THE TRACE stays", x.trace(0), 11);
        Due.due("beyond", x.trace(40), Due.NONE);
        Due.due("told", x.told(2), 1);
    }
}
