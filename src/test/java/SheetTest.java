/** Promises 26 to 30: SHEETS. */
final class SheetTest {
    private SheetTest() {
    }

    public static void main(String[] args) throws Exception {
        Due.each(SheetTest.class);
    }

    static void sheet() {
        NineLedges x = new NineLedges();
        Due.due("sheet", x.sheet(4, 8, 1), Due.BEYOND);
        Due.due("sheet", x.sheet(-1, 8, 1), Due.BEYOND);
        Due.due("bits", x.sheet(0, 7, 1), Due.BEYOND);
        Due.due("bits", x.sheet(0, -8, 1), Due.BEYOND);
        Due.due("bits ahead of n", x.sheet(0, 64, -1), Due.BEYOND);
        Due.due("n", x.sheet(0, 8, 41), Due.BEYOND);
        Due.due("n", x.sheet(0, 8, -1), Due.STATE);
        Due.due("sheet ahead of n", x.sheet(4, 8, -1), Due.BEYOND);
        Due.due("still missing", x.put(0, 0, 1), Due.NONE);
        Due.due("forty", x.sheet(0, 8, 40), 1);
        Due.due("the last", x.put(0, 39, 1), 1);
        Due.due("none", x.sheet(1, 16, 0), 1);
        Due.due("none, but not missing", x.put(1, 0, 1), Due.BEYOND);
        Due.due("missing", x.sheet(0, 0, -7), 1);
        Due.due("missing", x.sheet(1, 0, 99), 1);
        Due.due("missing", x.put(0, 39, 1), Due.NONE);
        Due.due("no such SHEET", x.sheet(4, 0, 0), Due.BEYOND);
        // all 0 again: YARD 0 can't have a ROOM of 0
        x.sheet(2, 8, 1);
        x.put(2, 0, 3);
        x.sheet(2, 8, 1);
        Due.due("all 0", x.rooms(2), 0);
    }

    static void put() {
        NineLedges x = new NineLedges();
        x.sheet(0, 8, 1);
        x.sheet(1, 16, 1);
        x.sheet(2, 32, 1);
        for (int i = 0; i < 3; i++) {
            Due.due("put", x.put(i, 0, 65536 + 256 + 2), 1);
        }
        Due.due("8 bits", x.rooms(0), 1);
        Due.due("2", x.ofYard(0, 0), 2);
        Due.due("16 bits", x.rooms(1), 0);
        x.put(1, 0, 65536 + 3);
        Due.due("16 bits", x.rooms(1), 1);
        Due.due("3", x.ofYard(0, 0), 3);
        Due.due("32 bits", x.rooms(2), 0);
        x.put(2, 0, 65536 + 3);
        Due.due("32 bits", x.rooms(2), 0);
        Due.due("no such SHEET", x.put(4, 0, 0), Due.BEYOND);
        Due.due("no such SHEET", x.put(-1, 0, 0), Due.BEYOND);
        Due.due("missing", x.put(3, -1, 0), Due.NONE);
        Due.due("no such number", x.put(0, 1, 0), Due.BEYOND);
        Due.due("no such number", x.put(0, -1, 0), Due.BEYOND);
        x.goer(0, 0, 1, 0);
        for (int i = 0; i < 3; i++) {
            x.put(i, 0, 255);
            Due.due("-1 of 8 bits alone", x.judge(i), i == 0 ? -1 : 0);
            x.put(i, 0, 65535);
            Due.due("-1 of 16 bits", x.judge(i), i < 2 ? -1 : 0);
            x.put(i, 0, -1);
            Due.due("-1", x.judge(i), -1);
        }
    }

    /** A SHEET's numbers, seen through rooms(): the first so many of them are ROOMS. */
    private static void seen(String what, NineLedges x, int sheet, int... want) {
        Due.due(what, x.rooms(sheet), want.length);
        for (int yard = 0; yard < want.length; yard++) {
            Due.due(what + " at " + yard, x.ofYard(yard, 0), want[yard]);
        }
    }

    static void move() {
        NineLedges x = new NineLedges();
        x.sheet(0, 8, 5);
        x.sheet(1, 8, 5);
        for (int i = 0; i < 5; i++) {
            x.put(0, i, i + 1);
            x.put(1, i, 1);
        }
        Due.due("to another", x.move(0, 1, 1, 3, 2), 2);
        seen("to another", x, 1, 1, 1, 1, 2, 3);
        seen("as they were", x, 0, 1, 2, 3, 4, 5);
        Due.due("forth", x.move(0, 0, 0, 1, 4), 4);
        seen("forth", x, 0, 1, 1, 2, 3, 4);
        Due.due("back", x.move(0, 2, 0, 0, 3), 3);
        seen("back", x, 0, 2, 3, 4, 3, 4);
        Due.due("none", x.move(0, 5, 1, 5, 0), 0);
        Due.due("all", x.move(1, 0, 0, 0, 5), 5);
        seen("all", x, 0, 1, 1, 1, 2, 3);
    }

    static void moveRefuses() {
        NineLedges x = new NineLedges();
        x.sheet(0, 8, 5);
        x.sheet(1, 16, 5);
        x.sheet(3, 8, 3);
        Due.due("no such SHEET", x.move(4, 0, 0, 0, 1), Due.BEYOND);
        Due.due("no such SHEET", x.move(0, 0, 4, 0, 1), Due.BEYOND);
        Due.due("no such SHEET", x.move(-1, 0, 2, 0, 1), Due.BEYOND);
        Due.due("one is missing", x.move(0, 0, 2, 0, -1), Due.NONE);
        Due.due("one is missing", x.move(2, 0, 0, 0, 1), Due.NONE);
        Due.due("unlike", x.move(0, 0, 1, 0, -1), Due.KIND);
        Due.due("n", x.move(0, 0, 3, 0, -1), Due.BEYOND);
        Due.due("i", x.move(0, -1, 3, 0, 1), Due.BEYOND);
        Due.due("j", x.move(0, 0, 3, -1, 1), Due.BEYOND);
        Due.due("they don't stand there", x.move(0, 3, 3, 0, 3), Due.BEYOND);
        Due.due("they don't stand there", x.move(0, 0, 3, 0, 4), Due.BEYOND);
        Due.due("they don't stand there", x.move(0, 2147483647, 3, 0, 1), Due.BEYOND);
        Due.due("they don't stand there", x.move(0, 1, 3, 0, 2147483647), Due.BEYOND);
        Due.due("they don't stand there", x.move(0, 1, 3, 2147483647, 2147483647), Due.BEYOND);
        Due.due("told", x.told(1), 11);
        Due.due("told", x.told(2), 2);
        Due.due("told", x.told(5), 1);
    }

    static void rooms() {
        NineLedges x = new NineLedges();
        x.sheet(0, 8, 40);
        Due.due("0 is refused", x.rooms(0), 0);
        for (int i = 0; i < 40; i++) {
            x.put(0, i, 1);
        }
        Due.due("to the last YARD", x.rooms(0), 24);
        x.put(0, 5, -1);
        x.put(0, 4, 5);
        Due.due("up to the first refused", x.rooms(0), 5);
        Due.due("those ahead of it are", x.ofYard(4, 0), 5);
        for (int i = 0; i < 12; i++) {
            x.put(0, i, 2);
        }
        Due.due("a tenth LEDGE", x.rooms(0), 9);
        Due.due("nine", x.count(1), 9);
        x.goer(0, 3, 20, 0);
        x.goer(0, 3, 20, 0);
        x.minutes(1);
        x.put(0, 3, 1);
        Due.due("two are at it", x.rooms(0), 3);
        Due.due("no ERROR", x.told(1) + x.told(2) + x.told(3) + x.told(4), 0);
        Due.due("no such SHEET", x.rooms(4), Due.BEYOND);
        Due.due("no such SHEET", x.rooms(-1), Due.BEYOND);
        Due.due("missing", x.rooms(1), Due.NONE);
        x.sheet(1, 32, 0);
        Due.due("none", x.rooms(1), 0);
    }

    static void judge() {
        NineLedges x = new NineLedges();
        x.sheet(0, 16, 0);
        Due.due("none of none", x.judge(0), -1);
        x.goer(0, 4, 20, 0);
        x.goer(0, 9, 10, 0);
        x.goer(0, 7, 20, 99);
        x.minutes(3);
        Due.due("one lacks", x.judge(0), 0);
        x.sheet(0, 16, 3);
        x.put(0, 0, 6);
        Due.due("the second", x.judge(0), 1);
        x.put(0, 1, -1);
        Due.due("the third", x.judge(0), 2);
        x.put(0, 2, -1);
        Due.due("all", x.judge(0), -1);
        x.sheet(1, 16, 4);
        x.move(0, 0, 1, 0, 3);
        Due.due("too many", x.judge(1), 3);
        x.sheet(1, 16, 2);
        x.move(0, 0, 1, 0, 2);
        Due.due("one lacks", x.judge(1), 2);
        x.put(1, 0, 5);
        Due.due("the first", x.judge(1), 0);
        Due.due("missing", x.judge(2), Due.NONE);
        Due.due("no such SHEET", x.judge(4), Due.BEYOND);
        Due.due("no such SHEET", x.judge(-1), Due.BEYOND);
    }
}
