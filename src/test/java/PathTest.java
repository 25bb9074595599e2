/** Promises 1 to 9: a new object, the path, goers. */
final class PathTest {
    private PathTest() {
    }

    public static void main(String[] args) throws Exception {
        Due.each(PathTest.class);
    }

    static void aNewObject() {
        NineLedges x = new NineLedges();
        for (int what = 0; what <= 9; what++) {
            Due.due("count(" + what + ") of a new one", x.count(what), 0);
        }
        Due.due("z of a new one", x.count(10), 1);
        for (int yard = 0; yard < 24; yard++) {
            Due.due("ROOM", x.ofYard(yard, 0), 1);
            Due.due("how many are there", x.ofYard(yard, 1), 0);
            Due.due("LEDGE", x.ofYard(yard, 2), -1);
        }
        for (int k = 1; k <= 5; k++) {
            Due.due("told(" + k + ") of a new one", x.told(k), 0);
        }
        Due.due("faults", x.faults(), 0);
        Due.due("no SHEET", x.put(0, 0, 0), Due.NONE);
        Due.due("no IMAGE", x.restore(), Due.NONE);
        Due.due("no BODY", x.trace(0), Due.NONE);
        Due.due("no GOER", x.ofGoer(0, 0), Due.BEYOND);
        Due.due("RANK without a TEXT", x.law(0, 7, 8, 9), 7);
        Due.due("TOLL without a TEXT", x.law(1, 7, 8, 9), 7);
    }

    static void roomAndOfYard() {
        NineLedges x = new NineLedges();
        Due.due("room", x.room(23, 5), 1);
        Due.due("room", x.room(0, 2), 1);
        Due.due("room", x.room(7, 3), 1);
        Due.due("LEDGES", x.count(1), 3);
        Due.due("ofYard", x.ofYard(23, 0), 5);
        Due.due("ofYard", x.ofYard(0, 2), 0);
        Due.due("ofYard", x.ofYard(7, 2), 1);
        Due.due("ofYard", x.ofYard(23, 2), 2);
        Due.due("ofYard", x.ofYard(8, 2), -1);
        Due.due("room", x.room(0, 1), 2);
        Due.due("renumbered", x.ofYard(7, 2), 0);
        Due.due("renumbered", x.ofYard(23, 2), 1);
        Due.due("room", x.room(7, 4), 3);
        Due.due("ofYard", x.ofYard(24, 0), Due.BEYOND);
        Due.due("ofYard", x.ofYard(-1, 0), Due.BEYOND);
        Due.due("ofYard", x.ofYard(0, 3), Due.BEYOND);
        Due.due("ofYard", x.ofYard(0, -1), Due.BEYOND);
        Due.due("told", x.told(1), 4);
    }

    static void roomRefuses() {
        NineLedges x = new NineLedges();
        Due.due("room", x.room(-1, 2), Due.BEYOND);
        Due.due("room", x.room(24, 2), Due.BEYOND);
        Due.due("room", x.room(0, 0), Due.BEYOND);
        Due.due("room", x.room(0, 6), Due.BEYOND);
        for (int yard = 0; yard < 9; yard++) {
            x.room(yard, 2);
        }
        Due.due("a tenth LEDGE", x.room(9, 2), Due.FULL);
        Due.due("nothing changed", x.ofYard(9, 0), 1);
        Due.due("a YARD without a LEDGE stays one", x.room(9, 1), 1);
        Due.due("a LEDGE stays one", x.room(8, 5), 2);
        Due.due("nine LEDGES", x.count(1), 9);
        x.goer(0, 0, 9, 0);
        x.goer(0, 0, 9, 0);
        x.minutes(1);
        Due.due("two are there", x.ofYard(0, 1), 2);
        Due.due("more than that", x.room(0, 1), Due.STATE);
        Due.due("still", x.ofYard(0, 0), 2);
        Due.due("as many", x.room(0, 2), 2);
    }

    static void goerAndOfGoer() {
        NineLedges x = new NineLedges();
        Due.due("goer", x.goer(69, 23, 0, 999), 0);
        Due.due("goer", x.goer(0, 0, 23, 0), 1);
        int[] first = {6, 9, 23, 0, 999, 0, -1, 0, 0, 0, 1, 9, 9, 1, 0};
        int[] second = {0, 0, 0, 23, 0, 0, -1, 0, 0, 0, 1, 0, 0, 1, 1};
        for (int what = 0; what <= 14; what++) {
            Due.due("ofGoer(0, " + what + ")", x.ofGoer(0, what), first[what]);
            Due.due("ofGoer(1, " + what + ")", x.ofGoer(1, what), second[what]);
        }
        Due.due("what", x.ofGoer(0, 15), Due.BEYOND);
        Due.due("what", x.ofGoer(0, -1), Due.BEYOND);
        Due.due("no such GOER", x.ofGoer(2, 0), Due.BEYOND);
        Due.due("no such GOER", x.ofGoer(-1, 0), Due.BEYOND);
        Due.due("km", x.goer(70, 0, 1, 0), Due.BEYOND);
        Due.due("km", x.goer(-1, 0, 1, 0), Due.BEYOND);
        Due.due("FROM", x.goer(0, -1, 1, 0), Due.BEYOND);
        Due.due("FROM", x.goer(0, 24, 1, 0), Due.BEYOND);
        Due.due("TO", x.goer(0, 1, -1, 0), Due.BEYOND);
        Due.due("TO", x.goer(0, 1, 24, 0), Due.BEYOND);
        Due.due("alike", x.goer(0, 5, 5, 0), Due.BEYOND);
        Due.due("START", x.goer(0, 1, 2, -1), Due.BEYOND);
        Due.due("START", x.goer(0, 1, 2, 1000), Due.BEYOND);
        for (int i = 2; i < 8; i++) {
            Due.due("goer", x.goer(i, 1, 2, 3), i);
        }
        Due.due("a ninth", x.goer(0, 1, 2, 3), Due.FULL);
        Due.due("a ninth that is none", x.goer(0, 1, 1, 3), Due.BEYOND);
        Due.due("eight", x.count(0), 8);
    }

    static void kinds() {
        // rows: km, PACE, LOAD, whether it CAN BACK, whether it HEARS
        int[][] all = {
            {0, 1, 0, 1, 1}, {9, 1, 9, 1, 1},
            {10, 2, 20, 0, 1}, {17, 2, 20, 0, 1},
            {22, 1, 0, 1, 1}, {23, 1, 0, 1, 1}, {28, 1, 5, 1, 1},
            {34, 1, 13, 0, 1}, {35, 1, 14, 1, 1},
            {40, 3, 20, 0, 0}, {45, 3, 20, 0, 0},
            {52, 3, 0, 1, 1}, {54, 2, 2, 1, 1}, {59, 1, 12, 1, 1},
            {60, 1, 9, 0, 0}, {63, 1, 9, 1, 0}, {68, 1, 9, 0, 0},
        };
        NineLedges x = new NineLedges();
        x.goer(0, 0, 1, 0);
        for (int[] k : all) {
            x.become(0, k[0]);
            Due.due(k[0] + " KIND", x.ofGoer(0, 0), k[0] / 10);
            Due.due(k[0] + " m", x.ofGoer(0, 1), k[0] % 10);
            Due.due(k[0] + " PACE", x.ofGoer(0, 10), k[1]);
            Due.due(k[0] + " LOAD", x.ofGoer(0, 11), k[2]);
            Due.due(k[0] + " RANK", x.ofGoer(0, 12), k[2]);
            Due.due(k[0] + " CAN BACK", x.ofGoer(0, 13), k[3]);
            Due.due(k[0] + " HEARS", x.ofGoer(0, 14), k[4]);
        }
    }

    static void becomeAndAs() {
        NineLedges x = new NineLedges();
        x.goer(37, 4, 1, 0);
        Due.due("become", x.become(0, 58), 3);
        Due.due("become", x.become(0, 49), 5);
        Due.due("as SLEEPING", x.as(0, 4), 9);
        Due.due("as COFFIN", x.as(0, 1), 9);
        Due.due("as GOER", x.as(0, 0), 9);
        Due.due("as GOAT", x.as(0, 2), Due.KIND);
        Due.due("as HERD", x.as(0, 5), Due.KIND);
        x.become(0, 11);
        Due.due("not under it", x.as(0, 4), Due.KIND);
        x.become(0, 56);
        Due.due("as HERD", x.as(0, 5), 6);
        Due.due("as GOAT", x.as(0, 2), 6);
        Due.due("as COFFIN", x.as(0, 1), Due.KIND);
        x.become(0, 64);
        Due.due("as BLIND", x.as(0, 6), 4);
        Due.due("as WEDDING", x.as(0, 3), 4);
        Due.due("as GOAT", x.as(0, 2), Due.KIND);
        Due.due("as COFFIN", x.as(0, 1), Due.KIND);
        Due.due("told", x.told(5), 6);
        Due.due("become", x.become(0, 70), Due.BEYOND);
        Due.due("become", x.become(0, -1), Due.BEYOND);
        Due.due("become", x.become(1, 0), Due.BEYOND);
        Due.due("become", x.become(-1, 0), Due.BEYOND);
        Due.due("as", x.as(0, 7), Due.BEYOND);
        Due.due("as", x.as(0, -1), Due.BEYOND);
        Due.due("as", x.as(1, 0), Due.BEYOND);
        Due.due("as", x.as(-1, 0), Due.BEYOND);
        x.minutes(1);
        x.become(0, 3);
        Due.due("it stays where it is", x.ofGoer(0, 6), 4);
    }

    static void start() {
        NineLedges x = new NineLedges();
        x.goer(0, 0, 5, 7);
        Due.due("start", x.start(0, 999), 7);
        Due.due("start", x.start(0, 0), 999);
        Due.due("start", x.start(0, -1), Due.BEYOND);
        Due.due("start", x.start(0, 1000), Due.BEYOND);
        Due.due("start", x.start(1, 0), Due.BEYOND);
        Due.due("start", x.start(-1, 0), Due.BEYOND);
        x.minutes(1);
        Due.due("ON", x.start(0, 1), Due.STATE);
        Due.due("BEYOND is asked first", x.start(0, 1000), Due.BEYOND);
        x.minutes(10);
        Due.due("OVER", x.start(0, 1), Due.STATE);
        Due.due("as it was", x.ofGoer(0, 4), 0);
    }

    static void home() {
        NineLedges x = new NineLedges();
        x.goer(3, 0, 10, 0);
        x.goer(5, 10, 0, 0);
        Due.due("home of one at HOME", x.home(0), 0);
        // they stand at 4 and 6 behind 5 MINUTES; 0 takes 5; then 1 finds it there, and 0 finds 1
        x.minutes(7);
        Due.due("BACKS", x.ofGoer(0, 8), 1);
        Due.due("TIMES", x.ofGoer(0, 9), 1);
        Due.due("home of one that is ON", x.home(0), 1);
        int[] fresh = {0, 3, 0, 10, 0, 0, -1, 0, 0, 0};
        for (int what = 0; what < fresh.length; what++) {
            Due.due("as a new one " + what, x.ofGoer(0, what), fresh[what]);
        }
        Due.due("BACKS stay", x.count(6), 1);
        Due.due("home", x.home(2), Due.BEYOND);
        Due.due("home", x.home(-1), Due.BEYOND);
        NineLedges y = new NineLedges();
        y.goer(0, 0, 1, 0);
        y.minutes(3);
        Due.due("home of one that is OVER", y.home(0), 2);
        Due.due("it is at HOME", y.ofGoer(0, 5), 0);
        NineLedges w = new NineLedges();
        w.goer(12, 4, 0, 0);
        w.goer(14, 3, 7, 0);
        w.minutes(2);
        Due.due("AT FAULT", w.faults(), 2);
        w.home(1);
        Due.due("not AT FAULT any more", w.faults(), 0);
    }
}
