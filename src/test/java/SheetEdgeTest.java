/** The edges that section 4 of the Terms and promises 26 to 30 name: each sentence has a test of its own. */
final class SheetEdgeTest {
    private static final int LEAST = -2147483648;
    private static final int MOST = 2147483647;

    private SheetEdgeTest() {
    }

    public static void main(String[] args) throws Exception {
        Due.each(SheetEdgeTest.class);
    }

    private static void fill(NineLedges x, int sheet, int... numbers) {
        for (int i = 0; i < numbers.length; i++) {
            Due.due("put", x.put(sheet, i, numbers[i]), 1);
        }
    }

    /** Numbers 1 to 5 of a SHEET, as rooms() makes them ROOMS. */
    private static void holds(NineLedges x, int sheet, int... numbers) {
        Due.due("rooms of SHEET " + sheet, x.rooms(sheet), numbers.length);
        for (int i = 0; i < numbers.length; i++) {
            Due.due("number " + i + " of SHEET " + sheet, x.ofYard(i, 0), numbers[i]);
        }
    }

    // ---- sheet

    /** "SHEETS 0 .. 3 .. or missing (as at first)". */
    static void missingAtFirst() {
        NineLedges x = new NineLedges();
        for (int sheet = 0; sheet < 4; sheet++) {
            Due.due("put", x.put(sheet, 0, 1), Due.NONE);
            Due.due("rooms", x.rooms(sheet), Due.NONE);
            Due.due("judge", x.judge(sheet), Due.NONE);
            Due.due("move", x.move(sheet, 0, sheet, 0, 0), Due.NONE);
        }
        for (int sheet : new int[] {-1, 4, LEAST, MOST}) {
            Due.due("put", x.put(sheet, 0, 1), Due.BEYOND);
            Due.due("rooms", x.rooms(sheet), Due.BEYOND);
            Due.due("judge", x.judge(sheet), Due.BEYOND);
            Due.due("move", x.move(sheet, 0, 0, 0, 0), Due.BEYOND);
            Due.due("move", x.move(0, 0, sheet, 0, 0), Due.BEYOND);
            Due.due("sheet", x.sheet(sheet, 8, 1), Due.BEYOND);
        }
        Due.due("told", x.told(2) * 100 + x.told(1), 1624);
    }

    /** "at most 40 numbers": 0, 40, and no 41. */
    static void fortyNumbers() {
        for (int bits = 8; bits <= 32; bits *= 2) {
            NineLedges x = new NineLedges();
            Due.due("41", x.sheet(3, bits, 41), Due.BEYOND);
            Due.due("missing still", x.put(3, 0, 1), Due.NONE);
            Due.due("40", x.sheet(3, bits, 40), 1);
            Due.due("the last", x.put(3, 39, 1), 1);
            Due.due("none behind it", x.put(3, 40, 1), Due.BEYOND);
            Due.due("41", x.sheet(3, bits, 41), Due.BEYOND);
            Due.due("forty still", x.put(3, 39, 1), 1);
            Due.due("1", x.sheet(3, bits, 1), 1);
            Due.due("the first", x.put(3, 0, 1), 1);
            Due.due("none behind it", x.put(3, 1, 1), Due.BEYOND);
            Due.due("0", x.sheet(3, bits, 0), 1);
            Due.due("none at all, but it isn't missing", x.put(3, 0, 1), Due.BEYOND);
            Due.due("rooms", x.rooms(3), 0);
        }
    }

    /** "n numbers, all 0": anew each time, also where there were others. */
    static void allZero() {
        NineLedges x = new NineLedges();
        for (int bits = 8; bits <= 32; bits *= 2) {
            x.sheet(0, bits, 40);
            for (int i = 0; i < 40; i++) {
                x.put(0, i, 1);
            }
            x.sheet(0, bits, 2);
            x.sheet(0, bits, 40);
            for (int i = 0; i < 24; i++) {
                Due.due("number " + i + " is 0, the first", x.rooms(0), i);
                x.put(0, i, 1);
            }
            Due.due("rooms", x.rooms(0), 24);
        }
    }

    /** "0: it is missing, n doesn't matter". */
    static void missingAgain() {
        NineLedges x = new NineLedges();
        for (int n : new int[] {LEAST, -1, 0, 1, 40, 41, MOST}) {
            x.sheet(1, 16, 5);
            Due.due("there", x.put(1, 4, 1), 1);
            Due.due("sheet(1, 0, " + n + ")", x.sheet(1, 0, n), 1);
            Due.due("missing", x.put(1, 4, 1), Due.NONE);
            Due.due("missing again", x.sheet(1, 0, n), 1);
        }
        Due.due("told", x.told(1) + x.told(3), 0);
    }

    /** "STATE: n is below 0 (ahead of BEYOND of n)", behind BEYOND of the SHEET and of the bits. */
    static void belowZero() {
        NineLedges x = new NineLedges();
        Due.due("-1", x.sheet(0, 8, -1), Due.STATE);
        Due.due("the least int", x.sheet(0, 32, LEAST), Due.STATE);
        Due.due("41", x.sheet(0, 8, 41), Due.BEYOND);
        Due.due("no such SHEET", x.sheet(4, 8, -1), Due.BEYOND);
        Due.due("no such SHEET", x.sheet(-1, 0, -1), Due.BEYOND);
        Due.due("no such bits", x.sheet(0, 12, -1), Due.BEYOND);
        Due.due("no such bits", x.sheet(0, -1, -1), Due.BEYOND);
        Due.due("missing still", x.rooms(0), Due.NONE);
        Due.due("told", x.told(3) * 10 + x.told(1), 25);
    }

    /** "of so many bits (8, 16, 32; 0)": no others. */
    static void bitsThatAreNone() {
        NineLedges x = new NineLedges();
        for (int bits = -40; bits <= 70; bits++) {
            boolean some = bits == 0 || bits == 8 || bits == 16 || bits == 32;
            Due.due("bits " + bits, x.sheet(2, bits, 3), some ? 1 : Due.BEYOND);
        }
    }

    // ---- put

    /** "Number i of a SHEET becomes v (its lowest bits)": what is left of v, seen as a ROOM. */
    static void lowestBits() {
        int[][] rows = {
            // v, what it is of 8, 16, 32 bits as a ROOM; 0: none
            {5, 5, 5, 5}, {256 + 5, 5, 0, 0}, {65536 + 5, 5, 5, 0}, {65536 + 256 + 5, 5, 0, 0}, {LEAST + 5, 5, 5, 0},
            {-65536 + 3, 3, 3, 0}, {-256 + 3, 3, 0, 0}, {128 + 1, 0, 0, 0}, {32768 + 1, 1, 0, 0}, {256, 0, 0, 0},
            {MOST - 255 + 2, 2, 0, 0}, {-1, 0, 0, 0},
        };
        for (int[] row : rows) {
            for (int k = 0; k < 3; k++) {
                NineLedges x = new NineLedges();
                x.sheet(k, 8 << k, 1);
                Due.due("put", x.put(k, 0, row[0]), 1);
                Due.due("rooms of " + row[0], x.rooms(k), row[k + 1] == 0 ? 0 : 1);
                Due.due("ROOM of " + row[0] + " in " + (8 << k) + " bits", x.ofYard(0, 0), Math.max(1, row[k + 1]));
            }
        }
    }

    /** The highest of its bits is a sign: -1 of 8, 16, 32 bits is -1. */
    static void signs() {
        int[][] rows = {{-1, 1, 1, 1}, {255, 1, 0, 0}, {65535, 1, 1, 0}, {0xffff00ff, 1, 0, 0}, {0x0000ffff, 1, 1, 0},
            {MOST, 1, 1, 0}, {0x7fffff7f, 0, 0, 0}, {0, 0, 0, 0}, {-2, 0, 0, 0}, {LEAST, 0, 0, 0}};
        for (int[] row : rows) {
            for (int k = 0; k < 3; k++) {
                NineLedges x = new NineLedges();
                x.goer(0, 0, 1, 0);
                x.sheet(0, 8 << k, 1);
                x.put(0, 0, row[0]);
                Due.due(row[0] + " is -1 in " + (8 << k) + " bits", x.judge(0), row[k + 1] == 1 ? -1 : 0);
            }
        }
    }

    /** "BEYOND: no such number": the first and the last are. */
    static void firstAndLastNumber() {
        NineLedges x = new NineLedges();
        x.sheet(0, 8, 5);
        for (int i : new int[] {LEAST, -1, 5, 39, 40, MOST}) {
            Due.due("put(0, " + i + ", 3)", x.put(0, i, 3), Due.BEYOND);
        }
        fill(x, 0, 1, 2, 3, 4, 5);
        holds(x, 0, 1, 2, 3, 4, 5);
        Due.due("told", x.told(1), 6);
    }

    // ---- move

    private static NineLedges rows() {
        NineLedges x = new NineLedges();
        x.sheet(0, 8, 6);
        x.sheet(1, 8, 4);
        x.sheet(2, 16, 4);
        fill(x, 0, 1, 2, 3, 4, 5, 1);
        fill(x, 1, 5, 5, 5, 5);
        fill(x, 2, 2, 2, 2, 2);
        return x;
    }

    /** "n numbers of a SHEET, from number i on, come to another one .. from its number j on": none to all. */
    static void moveNoneToAll() {
        NineLedges x = rows();
        Due.due("none", x.move(0, 0, 1, 0, 0), 0);
        holds(x, 1, 5, 5, 5, 5);
        Due.due("one, the last to the last", x.move(0, 5, 1, 3, 1), 1);
        holds(x, 1, 5, 5, 5, 1);
        Due.due("all that it has room for", x.move(0, 0, 1, 0, 4), 4);
        holds(x, 1, 1, 2, 3, 4);
        Due.due("all of it", x.move(1, 0, 0, 2, 4), 4);
        holds(x, 0, 1, 2, 1, 2, 3, 4);
        holds(x, 1, 1, 2, 3, 4);
    }

    /** "(or the same) .. as they all were": forth and back over one another. */
    static void moveOverItself() {
        NineLedges x = rows();
        Due.due("forth by one", x.move(0, 0, 0, 1, 5), 5);
        holds(x, 0, 1, 1, 2, 3, 4, 5);
        Due.due("back by one", x.move(0, 1, 0, 0, 5), 5);
        holds(x, 0, 1, 2, 3, 4, 5, 5);
        Due.due("forth by two", x.move(0, 0, 0, 2, 4), 4);
        holds(x, 0, 1, 2, 1, 2, 3, 4);
        Due.due("back by two", x.move(0, 2, 0, 0, 4), 4);
        holds(x, 0, 1, 2, 3, 4, 3, 4);
        Due.due("to where they are", x.move(0, 0, 0, 0, 6), 6);
        holds(x, 0, 1, 2, 3, 4, 3, 4);
    }

    /** "BEYOND: n, i, or j is below 0, or they don't stand there." */
    static void moveBeyond() {
        int[][] refused = {
            {-1, 0, 1}, {0, -1, 1}, {0, 0, -1}, {-1, -1, -1}, {0, 0, 5}, {3, 0, 4}, {0, 1, 4}, {6, 0, 1}, {0, 4, 1},
            {5, 0, 2}, {0, 3, 2}, {7, 0, 0}, {0, 5, 0}, {-1, 0, 0}, {0, -1, 0}, {MOST, 0, 1}, {0, MOST, 1}, {1, 1, MOST},
            {MOST, MOST, MOST}, {LEAST, 0, 0}, {0, LEAST, 0}, {0, 0, LEAST}, {MOST, 0, 0}, {0, MOST, 0},
        };
        for (int[] row : refused) {
            NineLedges x = rows();
            String call = "move(0, " + row[0] + ", 1, " + row[1] + ", " + row[2] + ")";
            Due.due(call, x.move(0, row[0], 1, row[1], row[2]), Due.BEYOND);
            Due.due("told", x.told(1), 1);
            holds(x, 0, 1, 2, 3, 4, 5, 1);
            holds(x, 1, 5, 5, 5, 5);
        }
    }

    /** None may be moved from behind the last number, and to there, and from a SHEET of none. */
    static void moveNoneAtTheEnd() {
        NineLedges x = rows();
        Due.due("from the end", x.move(0, 6, 1, 0, 0), 0);
        Due.due("to the end", x.move(0, 0, 1, 4, 0), 0);
        Due.due("both", x.move(0, 6, 1, 4, 0), 0);
        x.sheet(3, 8, 0);
        Due.due("from none", x.move(3, 0, 0, 0, 0), 0);
        Due.due("to none", x.move(0, 0, 3, 0, 0), 0);
        Due.due("one to none", x.move(0, 0, 3, 0, 1), Due.BEYOND);
        Due.due("one from none", x.move(3, 0, 0, 0, 1), Due.BEYOND);
        holds(x, 0, 1, 2, 3, 4, 5, 1);
    }

    /** "NONE: one is missing. KIND: they are of unlike bits." */
    static void moveBetweenUnlikes() {
        NineLedges x = rows();
        Due.due("8 to 16", x.move(0, 0, 2, 0, 1), Due.KIND);
        Due.due("16 to 8", x.move(2, 0, 0, 0, 1), Due.KIND);
        Due.due("none of them", x.move(2, 0, 0, 0, 0), Due.KIND);
        Due.due("missing", x.move(0, 0, 3, 0, 1), Due.NONE);
        Due.due("missing", x.move(3, 0, 2, 0, 1), Due.NONE);
        x.sheet(3, 32, 4);
        Due.due("8 to 32", x.move(0, 0, 3, 0, 1), Due.KIND);
        Due.due("32 to 16", x.move(3, 0, 2, 0, 1), Due.KIND);
        x.sheet(3, 16, 4);
        Due.due("16 to 16", x.move(2, 0, 3, 0, 4), 4);
        holds(x, 3, 2, 2, 2, 2);
        Due.due("told", x.told(5) * 10 + x.told(2), 52);
    }

    /** Forty numbers of 32 bits, whole. */
    static void moveForty() {
        NineLedges x = new NineLedges();
        x.sheet(0, 32, 40);
        x.sheet(1, 32, 40);
        for (int i = 0; i < 40; i++) {
            x.put(0, i, i == 39 ? 65536 + 1 : 1);
        }
        Due.due("forty", x.move(0, 0, 1, 0, 40), 40);
        Due.due("rooms", x.rooms(1), 24);
        Due.due("the last of them", x.move(1, 39, 1, 0, 1), 1);
        Due.due("it is whole", x.rooms(1), 0);
        Due.due("a forty-first", x.move(1, 0, 0, 0, 41), Due.BEYOND);
        Due.due("one too far", x.move(1, 1, 0, 0, 40), Due.BEYOND);
        Due.due("one too far", x.move(1, 0, 0, 1, 40), Due.BEYOND);
    }

    // ---- rooms

    /** "how many, up to the first that room() would refuse .. or that is beyond the last YARD". */
    static void roomsToTheLastYard() {
        for (int n : new int[] {0, 1, 23, 24, 25, 40}) {
            NineLedges x = new NineLedges();
            x.sheet(0, 8, n);
            for (int i = 0; i < n; i++) {
                x.put(0, i, 1);
            }
            if (n > 23) {
                x.put(0, 23, 5);
            }
            Due.due(n + " numbers", x.rooms(0), Math.min(24, n));
            Due.due("the last YARD", x.ofYard(23, 0), n > 23 ? 5 : 1);
            Due.due("no ERROR", Due.errors(x), 0);
        }
    }

    /** BEYOND of room(): 1 and 5 are taken, 0, 6 and -1 are not; those ahead stay as they have become. */
    static void roomsUpToBeyond() {
        for (int wrong : new int[] {0, 6, -1, LEAST, MOST}) {
            NineLedges x = new NineLedges();
            x.sheet(0, 32, 4);
            fill(x, 0, 5, 1, wrong, 3);
            Due.due("rooms", x.rooms(0), 2);
            Due.due("the first", x.ofYard(0, 0), 5);
            Due.due("none behind it", x.ofYard(3, 0), 1);
            Due.due("no ERROR", Due.errors(x), 0);
        }
    }

    /** FULL of room(): a tenth LEDGE. */
    static void roomsUpToFull() {
        NineLedges x = new NineLedges();
        x.room(23, 2);
        x.sheet(0, 8, 20);
        for (int i = 0; i < 20; i++) {
            x.put(0, i, 1 + (i + 1) % 2);
        }
        Due.due("eight more", x.rooms(0), 16);
        Due.due("nine", x.count(1), 9);
        Due.due("no ERROR", Due.errors(x), 0);
        x.put(0, 16, 1);
        x.put(0, 18, 1);
        Due.due("none more", x.rooms(0), 20);
    }

    /** STATE of room(): more are at it than that. */
    static void roomsUpToState() {
        NineLedges x = new NineLedges();
        x.room(2, 3);
        for (int i = 0; i < 3; i++) {
            x.goer(0, 2, 9, 0);
        }
        x.minutes(1);
        x.sheet(0, 16, 5);
        fill(x, 0, 1, 1, 2, 1, 1);
        Due.due("three are at it", x.rooms(0), 2);
        Due.due("its ROOM", x.ofYard(2, 0), 3);
        x.minutes(1);
        Due.due("two are at it", x.rooms(0), 5);
        Due.due("its ROOM", x.ofYard(2, 0), 2);
        Due.due("no ERROR", Due.errors(x), 0);
    }

    // ---- judge

    /** "-1: all are": none of none, and "one that lacks, or is too many, too". */
    static void judgeHowMany() {
        for (int goers = 0; goers <= 8; goers++) {
            NineLedges x = new NineLedges();
            for (int i = 0; i < goers; i++) {
                x.goer(0, 0, 1, 5);
            }
            for (int n : new int[] {0, 1, 7, 8, 9, 40}) {
                x.sheet(0, 8, n);
                for (int i = 0; i < n; i++) {
                    x.put(0, i, -1);
                }
                Due.due(n + " numbers of " + goers, x.judge(0), n == goers ? -1 : Math.min(n, goers));
            }
            Due.due("no ERROR", Due.errors(x), 0);
        }
    }

    /** One that is at YARD 0 lacks where there is no number, and a 0 is too many where there is no GOER. */
    static void judgeIsNotFooledByZero() {
        NineLedges x = new NineLedges();
        x.goer(0, 0, 9, 0);
        x.minutes(1);
        x.sheet(0, 8, 0);
        Due.due("it lacks", x.judge(0), 0);
        x.sheet(0, 8, 1);
        Due.due("0", x.judge(0), -1);
        x.sheet(0, 8, 2);
        Due.due("one too many", x.judge(0), 1);
    }

    /** "(-1: not ON)": at HOME and OVER; the first that isn't so. */
    static void judgeTheFirst() {
        NineLedges x = new NineLedges();
        x.goer(0, 22, 23, 3);
        x.goer(0, 1, 0, 3);
        x.goer(0, 9, 10, 0);
        x.goer(0, 9, 10, 99);
        x.minutes(4);
        x.sheet(1, 16, 4);
        fill(x, 1, 23, 0, -1, -1);
        Due.due("all are", x.judge(1), -1);
        for (int i = 3; i >= 0; i--) {
            x.put(1, i, 7);
            Due.due("the first is " + i, x.judge(1), i);
        }
        fill(x, 1, 23, 0, 9, -1);
        Due.due("OVER isn't where it was", x.judge(1), 2);
        fill(x, 1, 23, 0, -1, 9);
        Due.due("HOME isn't FROM", x.judge(1), 3);
    }
}
