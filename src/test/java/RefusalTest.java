import java.util.function.Supplier;

/**
 * Promises 1 to 36, their ERRORS: for each act the last value that is taken and the first that is refused,
 * which of several ERRORS comes first, that told() counts it, and that nothing else changes.
 */
final class RefusalTest {
    private static final int LEAST = -2147483648;
    private static final int MOST = 2147483647;

    interface Asked {
        int on(NineLedges x, int v);
    }

    private RefusalTest() {
    }

    public static void main(String[] args) throws Exception {
        Due.each(RefusalTest.class);
    }

    // ---- how it is asked

    private static void refused(String call, int error, Twins.Act act) {
        Twins.refused(call, Scene::busy, error, act);
    }

    private static void refused(String call, Supplier<NineLedges> scene, int error, Twins.Act act) {
        Twins.refused(call, scene, error, act);
    }

    private static void refusedAt(String call, int error, Asked asked, int... values) {
        for (int v : values) {
            refused(call + " at " + v, error, x -> asked.on(x, v));
        }
    }

    /** From least to most it is taken (so it isn't BEYOND), what is just outside or far from it is BEYOND. */
    private static void from(int least, int most, String call, Asked asked) {
        refusedAt(call, Due.BEYOND, asked, least - 1, most + 1, LEAST, MOST);
        for (int v : new int[] {least, most}) {
            NineLedges x = Scene.busy();
            int before = x.told(1);
            asked.on(x, v);
            Due.due(call + " at " + v + " isn't BEYOND", x.told(1), before);
        }
    }

    // ---- the path, goers

    static void theScene() {
        NineLedges x = Scene.busy();
        int[] how = {1, 1, 1, 1, 2, 1, 0};
        int[] yards = {13, 14, 15, 16, -1, 20, -1};
        for (int goer = 0; goer < 7; goer++) {
            Due.due("how GOER " + goer + " is", x.ofGoer(goer, 5), how[goer]);
            Due.due("YARD of GOER " + goer, x.ofGoer(goer, 6), yards[goer]);
        }
        Due.due("it BACKS", x.ofGoer(2, 8), 1);
        Due.due("AT FAULT", x.faults(), 1);
        Due.due("BACKS", x.count(6), 1);
        Due.due("TAKINGS", x.count(5), 3);
        Due.due("BODIES", x.count(9), 9);
        Due.due("bytes", x.count(7), 3);
        Due.due("numbers that wait", x.count(8), 4);
        Due.due("all but the last are right", x.check(), 4);
        Due.due("what is told", x.told(1) * 10 + x.told(2), 11);
        Due.due("9 LEDGES", Scene.nineLedges().count(1), 9);
        Due.due("8 GOERS", Scene.eightGoers().count(0), 8);
        Due.due("two at a LEDGE", Scene.eightGoers().ofYard(20, 1), 2);
        Due.due("50 bytes", Scene.fullTape().count(7), 50);
        Due.due("20 wait", Scene.twentyWait().count(8), 20);
        Due.due("MINUTE", Scene.late().count(2), 9998);
        Due.due("easy", Scene.easy().overBy(), 37);
    }

    static void room() {
        from(0, 23, "room(v, 3)", (x, v) -> x.room(v, 3));
        from(1, 5, "room(9, v)", (x, v) -> x.room(9, v));
        refused("two are at it", Scene::eightGoers, Due.STATE, x -> x.room(20, 1));
        refused("a tenth LEDGE", Scene::nineLedges, Due.FULL, x -> x.room(0, 2));
        refused("a tenth LEDGE", Scene::nineLedges, Due.FULL, x -> x.room(21, 5));
        refused("BEYOND ahead of STATE", Scene::eightGoers, Due.BEYOND, x -> x.room(20, 0));
        refused("BEYOND ahead of FULL", Scene::nineLedges, Due.BEYOND, x -> x.room(0, 6));
    }

    static void ofYard() {
        from(0, 23, "ofYard(v, 0)", (x, v) -> x.ofYard(v, 0));
        from(0, 2, "ofYard(20, v)", (x, v) -> x.ofYard(20, v));
    }

    static void goer() {
        from(0, 69, "goer(v, 1, 2, 3)", (x, v) -> x.goer(v, 1, 2, 3));
        from(0, 23, "goer(0, v, 2, 3)", (x, v) -> x.goer(0, v, 2, 3));
        from(0, 23, "goer(0, 1, v, 3)", (x, v) -> x.goer(0, 1, v, 3));
        from(0, 999, "goer(0, 1, 2, v)", (x, v) -> x.goer(0, 1, 2, v));
        refusedAt("FROM and TO alike", Due.BEYOND, (x, v) -> x.goer(0, v, v, 3), 0, 1, 23);
        refused("a ninth", Scene::eightGoers, Due.FULL, x -> x.goer(0, 1, 2, 3));
        refused("BEYOND ahead of FULL", Scene::eightGoers, Due.BEYOND, x -> x.goer(70, 1, 2, 3));
        refused("BEYOND ahead of FULL", Scene::eightGoers, Due.BEYOND, x -> x.goer(0, 24, 2, 3));
        refused("BEYOND ahead of FULL", Scene::eightGoers, Due.BEYOND, x -> x.goer(0, 1, -1, 3));
        refused("BEYOND ahead of FULL", Scene::eightGoers, Due.BEYOND, x -> x.goer(0, 1, 1, 3));
        refused("BEYOND ahead of FULL", Scene::eightGoers, Due.BEYOND, x -> x.goer(0, 1, 2, 1000));
    }

    static void ofGoer() {
        from(0, 6, "ofGoer(v, 5)", (x, v) -> x.ofGoer(v, 5));
        from(0, 14, "ofGoer(6, v)", (x, v) -> x.ofGoer(6, v));
    }

    static void become() {
        from(0, 6, "become(v, 33)", (x, v) -> x.become(v, 33));
        from(0, 69, "become(6, v)", (x, v) -> x.become(6, v));
    }

    static void as() {
        from(0, 6, "as(v, 0)", (x, v) -> x.as(v, 0));
        from(0, 6, "as(6, v)", (x, v) -> x.as(6, v));
        refusedAt("a BLIND one as", Due.KIND, (x, v) -> x.as(6, v), 1, 2, 4, 5);
        refusedAt("a GOER as", Due.KIND, (x, v) -> x.as(4, v), 1, 2, 3, 4, 5, 6);
    }

    static void start() {
        from(0, 6, "start(v, 500)", (x, v) -> x.start(v, 500));
        from(0, 999, "start(6, v)", (x, v) -> x.start(6, v));
        refusedAt("not at HOME", Due.STATE, (x, v) -> x.start(v, 500), 0, 1, 2, 3, 4, 5);
        refusedAt("BEYOND ahead of STATE", Due.BEYOND, (x, v) -> x.start(4, v), -1, 1000);
    }

    static void home() {
        from(0, 6, "home(v)", (x, v) -> x.home(v));
    }

    // ---- texts

    static void feed() {
        from(1, 8, "feed(.., v)", (x, v) -> x.feed(0x6c2b6c2b6c2b6c2bL, v));
        refused("a byte too many", Scene::fullTape, Due.FULL, x -> x.feed(0x6c, 1));
        refused("BEYOND ahead of FULL", Scene::fullTape, Due.BEYOND, x -> x.feed(0x6c, 9));
        refused("BEYOND ahead of FULL", Scene::fullTape, Due.BEYOND, x -> x.feed(0x6c, 0));
    }

    static void text() {
        from(0, 1, "text(v)", (x, v) -> x.text(v));
    }

    static void law() {
        from(0, 1, "law(v, 1, 2, 3)", (x, v) -> x.law(v, 1, 2, 3));
    }

    // ---- minutes

    static void minutes() {
        from(1, 300, "minutes(v)", (x, v) -> x.minutes(v));
        refused("MINUTE would be 10000", Scene::late, Due.STATE, x -> x.minutes(2));
        refused("MINUTE would be 10298", Scene::late, Due.STATE, x -> x.minutes(300));
        refused("BEYOND ahead of STATE", Scene::late, Due.BEYOND, x -> x.minutes(301));
        refused("BEYOND ahead of STATE", Scene::late, Due.BEYOND, x -> x.minutes(MOST));
    }

    static void loose() {
        from(1, 300, "loose(v)", (x, v) -> x.loose(v));
        refused("MINUTE would be 10000", Scene::late, Due.STATE, x -> x.loose(2));
        refused("MINUTE would be 10298", Scene::late, Due.STATE, x -> x.loose(300));
        refused("BEYOND ahead of STATE", Scene::late, Due.BEYOND, x -> x.loose(301));
        refused("BEYOND ahead of STATE", Scene::late, Due.BEYOND, x -> x.loose(MOST));
    }

    static void then() {
        from(0, 300, "then(v, 5, 6)", (x, v) -> x.then(v, 5, 6));
        from(0, 6, "then(9, v, 6)", (x, v) -> x.then(9, v, 6));
        from(5, 9, "then(9, 5, v)", (x, v) -> x.then(9, 5, v));
        from(5, 9, "then(0, 5, v)", (x, v) -> x.then(0, 5, v));
    }

    // ---- what would be

    static void overBy() {
        refused("never", Due.NONE, x -> x.overBy());
    }

    static void stuckBy() {
        refused("one is to START at 400", Due.NONE, x -> x.stuckBy());
        refused("all are OVER some time", RefusalTest::easyWithImage, Due.NONE, x -> x.stuckBy());
    }

    private static NineLedges easyWithImage() {
        NineLedges x = Scene.easy();
        x.image();
        return x;
    }

    static void bestStart() {
        from(0, 6, "bestStart(v, 0)", (x, v) -> x.bestStart(v, 0));
        from(0, 2, "bestStart(6, v)", (x, v) -> x.bestStart(6, v));
        refusedAt("STATE ahead of NONE", Due.STATE, (x, v) -> x.bestStart(v, 0), 0, 1, 2, 3, 4, 5);
        refusedAt("with none", Due.NONE, (x, v) -> x.bestStart(6, v), 0, 1, 2);
        refusedAt("BEYOND ahead of STATE", Due.BEYOND, (x, v) -> x.bestStart(4, v), -1, 3);
        refused("ON", RefusalTest::easyWithImage, Due.STATE, x -> x.bestStart(0, 0));
        Due.due("it could be", Scene.easy().bestStart(1, 1), 10);
    }

    static void spare() {
        from(0, 6, "spare(v)", (x, v) -> x.spare(v));
        refusedAt("STATE ahead of NONE", Due.STATE, (x, v) -> x.spare(v), 0, 1, 2, 3, 4, 5);
        refused("none as it is", Due.NONE, x -> x.spare(6));
        refused("ON", RefusalTest::easyWithImage, Due.STATE, x -> x.spare(0));
        Due.due("it could be", Scene.easy().spare(1), 60);
    }

    static void without() {
        from(0, 3, "without(v)", (x, v) -> x.without(v));
        refused("not by 300", Due.NONE, x -> x.without(0));
        refused("one is at it", Due.NONE, x -> x.without(3));
        refused("STATE ahead of NONE", Scene::eightGoers, Due.STATE, x -> x.without(3));
        refused("the ninth", Scene::nineLedges, Due.NONE, x -> x.without(8));
        refused("no tenth", Scene::nineLedges, Due.BEYOND, x -> x.without(9));
    }

    static void newOne() {
        from(0, 1, "newOne(v)", (x, v) -> x.newOne(v));
        refusedAt("with none", Due.NONE, (x, v) -> x.newOne(v), 0, 1);
        refused("FULL ahead of NONE", Scene::nineLedges, Due.FULL, x -> x.newOne(0));
        refused("FULL ahead of NONE", Scene::nineLedges, Due.FULL, x -> x.newOne(1));
        refused("BEYOND ahead of FULL", Scene::nineLedges, Due.BEYOND, x -> x.newOne(2));
        refused("BEYOND ahead of FULL", Scene::nineLedges, Due.BEYOND, x -> x.newOne(-1));
    }

    // ---- draws, voices, sheets, images, what is told

    static void voice() {
        from(0, 6, "voice(v, 0, 9)", (x, v) -> x.voice(v, 0, 9));
        from(0, 3, "voice(0, v, 9)", (x, v) -> x.voice(0, v, 9));
    }

    static void trace() {
        refusedAt("none such", Due.NONE, (x, v) -> x.trace(v), -1, 9, 39, 40, 41, LEAST, MOST);
        Due.due("the last", Scene.busy().trace(8), 12);
    }

    static void sheet() {
        from(0, 3, "sheet(v, 8, 2)", (x, v) -> x.sheet(v, 8, 2));
        refusedAt("bits", Due.BEYOND, (x, v) -> x.sheet(0, v, 2), LEAST, -8, -1, 1, 7, 9, 15, 17, 24, 31, 33, 64, MOST);
        refusedAt("n is below 0", Due.STATE, (x, v) -> x.sheet(0, 8, v), -1, -41, LEAST);
        refusedAt("n", Due.BEYOND, (x, v) -> x.sheet(0, 8, v), 41, 42, MOST);
        refusedAt("n of 32 bits", Due.BEYOND, (x, v) -> x.sheet(1, 32, v), 41, MOST);
        refusedAt("BEYOND of the SHEET ahead of STATE", Due.BEYOND, (x, v) -> x.sheet(4, 8, v), -1, LEAST);
        refusedAt("BEYOND of the bits ahead of STATE", Due.BEYOND, (x, v) -> x.sheet(0, 9, v), -1, LEAST);
        refusedAt("no such SHEET that is to be missing", Due.BEYOND, (x, v) -> x.sheet(v, 0, 0), -1, 4);
        for (int bits : new int[] {8, 16, 32}) {
            for (int n : new int[] {0, 1, 40}) {
                Due.due("sheet(3, " + bits + ", " + n + ")", Scene.busy().sheet(3, bits, n), 1);
            }
        }
        for (int n : new int[] {LEAST, -1, 0, 40, 41, MOST}) {
            Due.due("missing: n doesn't matter", Scene.busy().sheet(0, 0, n), 1);
        }
    }

    static void put() {
        from(0, 3, "put(v, 0, 9)", (x, v) -> x.put(v, 0, 9));
        from(0, 4, "put(0, v, 9)", (x, v) -> x.put(0, v, 9));
        from(0, 3, "put(1, v, 9)", (x, v) -> x.put(1, v, 9));
        refused("missing", Due.NONE, x -> x.put(3, 0, 9));
        refusedAt("NONE ahead of BEYOND of the number", Due.NONE, (x, v) -> x.put(3, v, 9), -1, 40, 41);
        refusedAt("BEYOND ahead of NONE", Due.BEYOND, (x, v) -> x.put(v, -1, 9), -1, 4);
    }

    static void move() {
        from(0, 3, "move(v, 0, 0, 0, 1)", (x, v) -> x.move(v, 0, 0, 0, 1));
        from(0, 3, "move(0, 0, v, 0, 1)", (x, v) -> x.move(0, 0, v, 0, 1));
        from(0, 3, "move(0, 0, 2, 0, v)", (x, v) -> x.move(0, 0, 2, 0, v));
        from(0, 5, "move(0, 0, 0, 0, v)", (x, v) -> x.move(0, 0, 0, 0, v));
        from(0, 3, "move(0, v, 2, 0, 2)", (x, v) -> x.move(0, v, 2, 0, 2));
        from(0, 1, "move(0, 0, 2, v, 2)", (x, v) -> x.move(0, 0, 2, v, 2));
        from(0, 5, "move(0, v, 2, 0, 0)", (x, v) -> x.move(0, v, 2, 0, 0));
        from(0, 3, "move(0, 0, 2, v, 0)", (x, v) -> x.move(0, 0, 2, v, 0));
        refused("the first is missing", Due.NONE, x -> x.move(3, 0, 0, 0, 1));
        refused("the other is missing", Due.NONE, x -> x.move(0, 0, 3, 0, 1));
        refused("both are missing", Due.NONE, x -> x.move(3, 0, 3, 0, 0));
        refused("unlike bits", Due.KIND, x -> x.move(0, 0, 1, 0, 1));
        refused("unlike bits, and none to move", Due.KIND, x -> x.move(1, 0, 0, 0, 0));
        refused("BEYOND ahead of NONE", Due.BEYOND, x -> x.move(3, 0, 4, 0, 1));
        refused("BEYOND ahead of NONE", Due.BEYOND, x -> x.move(-1, 0, 3, 0, 1));
        refusedAt("NONE ahead of BEYOND of n", Due.NONE, (x, v) -> x.move(0, 0, 3, 0, v), -1, 41);
        refusedAt("KIND ahead of BEYOND of n", Due.KIND, (x, v) -> x.move(0, 0, 1, 0, v), -1, 41);
        refusedAt("KIND ahead of BEYOND of i", Due.KIND, (x, v) -> x.move(0, v, 1, 0, 1), -1, 41);
        refused("ints don't go round", Due.BEYOND, x -> x.move(0, MOST, 2, 0, MOST));
        refused("ints don't go round", Due.BEYOND, x -> x.move(0, 0, 2, MOST, LEAST));
        refused("ints don't go round", Due.BEYOND, x -> x.move(0, 1, 2, 1, MOST));
    }

    static void rooms() {
        from(0, 3, "rooms(v)", (x, v) -> x.rooms(v));
        refused("missing", Due.NONE, x -> x.rooms(3));
    }

    static void judge() {
        from(0, 3, "judge(v)", (x, v) -> x.judge(v));
        refused("missing", Due.NONE, x -> x.judge(3));
    }

    static void restore() {
        refused("there is none", Scene::easy, Due.NONE, x -> x.restore());
    }

    static void tell() {
        refused("a 21st", Scene::twentyWait, Due.FULL, x -> x.tell(1));
        refused("a 21st", Scene::twentyWait, Due.FULL, x -> x.tell(LEAST));
    }

    static void count() {
        from(0, 10, "count(v)", (x, v) -> x.count(v));
    }

    /** "BEYOND: another k (counted, too)." */
    static void told() {
        from(1, 5, "told(v)", (x, v) -> x.told(v));
    }

    /** What can't be refused leaves told() alone, however its answer looks. */
    static void neverRefused() {
        NineLedges x = Scene.busy();
        int before = Due.errors(x);
        for (int v : new int[] {Due.BEYOND, Due.NONE, Due.STATE, Due.FULL, Due.KIND, LEAST, MOST, 7}) {
            x.seed(v);
            Due.due("z", x.count(10), v);
            Due.due("seed", x.seed(v), v);
            x.check();
            Due.due("tell", x.tell(v), 1);
        }
        x.faults();
        x.image();
        Due.text(x, 0, "7");
        Due.text(x, 0, "7+");
        Due.due("RANK", Due.text(x, 0, "l"), 1);
        Due.due("RANK like an ERROR", x.law(0, Due.FULL, 0, 0), Due.FULL);
        Due.due("VOICE like an ERROR", x.voice(0, 0, Due.KIND), Due.KIND);
        Due.due("no ERROR", Due.errors(x), before);
    }
}
