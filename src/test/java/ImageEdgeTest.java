/** The edges that promises 31 to 36 name: each sentence has a test of its own. */
final class ImageEdgeTest {
    private static final int LEAST = -2147483648;
    private static final int MOST = 2147483647;

    private ImageEdgeTest() {
    }

    public static void main(String[] args) throws Exception {
        Due.each(ImageEdgeTest.class);
    }

    // ---- image, restore

    /** "how often that was done": restore() doesn't take that back. */
    static void howOften() {
        NineLedges x = new NineLedges();
        for (int i = 1; i <= 60; i++) {
            Due.due("image", x.image(), i);
            if (i % 3 == 0) {
                Due.due("restore", x.restore(), 0);
            }
        }
    }

    /** "NONE: there is none." */
    static void noImage() {
        NineLedges x = new NineLedges();
        x.minutes(5);
        Due.due("none", x.restore(), Due.NONE);
        Due.due("none", x.restore(), Due.NONE);
        Due.due("MINUTE", x.count(2), 5);
        Due.due("told", x.told(2), 2);
        x.image();
        Due.due("there is one", x.restore(), 5);
    }

    /** "All is as the IMAGE has it, which stays: MINUTE." */
    static void theImageStays() {
        NineLedges x = Scene.busy();
        NineLedges twin = Scene.busy();
        x.image();
        twin.image();
        for (int i = 0; i < 5; i++) {
            x.room(1, 2 + i % 2);
            x.minutes(7);
            x.check();
            x.home(i);
            x.text(i % 2);
            x.loose(2);
            Due.due("MINUTE", x.restore(), 8);
        }
        Twins.alike("behind five times", x, twin);
    }

    /** "in place of one ahead". */
    static void inPlaceOfOneAhead() {
        NineLedges x = new NineLedges();
        x.room(3, 2);
        x.image();
        x.minutes(4);
        x.room(3, 1);
        x.room(4, 5);
        x.image();
        x.minutes(4);
        x.room(5, 2);
        Due.due("the later one", x.restore(), 4);
        Due.due("its LEDGES", x.ofYard(3, 0) * 100 + x.ofYard(4, 0) * 10 + x.ofYard(5, 0), 151);
    }

    /** "MINUTE": 0 and 9999. */
    static void minuteOfTheImage() {
        NineLedges x = new NineLedges();
        x.image();
        for (int i = 0; i < 33; i++) {
            x.minutes(300);
        }
        x.minutes(99);
        Due.due("0", x.restore(), 0);
        Due.due("MINUTES go by again", x.minutes(300), 0);
        for (int i = 0; i < 32; i++) {
            x.minutes(300);
        }
        x.minutes(99);
        x.image();
        Due.due("9999", x.restore(), 9999);
        Due.due("no more", x.minutes(1), Due.STATE);
    }

    /** "All .. is kept": each act that changes something of it, one by one, is taken back. */
    static void eachPartIsKept() {
        Twins.Act[] acts = {
            x -> x.room(0, 5), x -> x.room(20, 3), x -> x.room(2, 1), x -> x.goer(69, 1, 2, 3), x -> x.become(0, 9),
            x -> x.become(6, 58), x -> x.start(6, 7), x -> x.home(0), x -> x.home(1), x -> x.home(2), x -> x.home(4),
            x -> x.feed(0x31, 1), x -> x.text(0), x -> x.text(1), x -> x.minutes(1), x -> x.minutes(300),
            x -> x.loose(1), x -> x.loose(300), x -> x.seed(5), x -> x.tell(3), x -> x.check(),
        };
        for (int i = 0; i < acts.length; i++) {
            NineLedges x = Scene.busy();
            NineLedges twin = Scene.busy();
            x.image();
            twin.image();
            acts[i].on(x);
            Due.due("restore", x.restore(), 8);
            Twins.alike("act " + i, x, twin);
        }
    }

    /** The same the other way: what the IMAGE has comes back where it was changed, GOERS that came are gone. */
    static void eachPartComesBack() {
        NineLedges x = new NineLedges();
        x.image();
        x.room(1, 2);
        x.room(20, 5);
        x.goer(15, 0, 3, 0);
        x.goer(39, 1, 0, 0);
        Due.text(x, 0, "7");
        Due.text(x, 1, "8");
        x.loose(5);
        x.feed(0x31, 1);
        x.tell(4);
        Due.due("restore", x.restore(), 0);
        for (int what = 0; what <= 9; what++) {
            Due.due("count " + what, x.count(what), 0);
        }
        Due.due("z", x.count(10), 1);
        Due.due("RANK", x.law(0, 41, 2, 3), 41);
        Due.due("TOLL", x.law(1, 42, 2, 3), 42);
        Due.due("no GOER", x.ofGoer(0, 0), Due.BEYOND);
        Due.due("ROOM", x.ofYard(1, 0) * 10 + x.ofYard(20, 0), 11);
        Due.due("faults", x.faults(), 0);
        Due.due("a new one is the first", x.goer(0, 5, 6, 0), 0);
    }

    /** TAKINGS, BACKS and who is AT FAULT are kept. */
    static void takingsAndBacks() {
        NineLedges x = new NineLedges();
        x.room(1, 2);
        x.goer(5, 0, 3, 0);
        x.goer(1, 9, 20, 0);
        x.goer(15, 10, 0, 0);
        x.goer(30, 15, 20, 0);
        x.goer(15, 16, 14, 0);
        x.minutes(2);
        int[] want = {5, 1, 8};
        for (int i = 0; i < 2; i++) {
            Due.due("TAKINGS", x.count(5), want[0]);
            Due.due("BACKS", x.count(6), want[1]);
            Due.due("AT FAULT", x.faults(), want[2]);
            x.image();
            x.home(0);
            x.home(1);
            x.home(3);
            x.start(3, 999);
            x.minutes(4);
            Due.due("they changed", x.count(5) != 5 && x.count(6) != 1 && x.faults() != 8);
            x.restore();
        }
    }

    /** "(but SHEETS, THE TRACE, what told() tells, and how often this was done)". */
    static void notKept() {
        NineLedges x = Scene.busy();
        x.image();
        int errors = Due.errors(x);
        x.sheet(0, 8, 1);
        x.put(0, 0, 4);
        x.sheet(1, 0, 0);
        x.sheet(3, 32, 2);
        x.voice(4, 1, 0);
        x.trace(-1);
        x.room(-1, -1);
        x.image();
        x.minutes(1);
        x.restore();
        Due.due("a SHEET", x.rooms(0), 1);
        Due.due("its number", x.ofYard(0, 0), 4);
        Due.due("one that is missing", x.rooms(1), Due.NONE);
        Due.due("one that came", x.rooms(3), 0);
        Due.due("THE TRACE", x.count(9), 2);
        Due.due("its first", x.trace(0), 11);
        Due.due("what is told", Due.errors(x), errors + 3);
        Due.due("how often", x.image(), 4);
    }

    // ---- tell, check

    /** "FULL: 20 wait." */
    static void twentyWait() {
        NineLedges x = new NineLedges();
        for (int i = 1; i <= 20; i++) {
            Due.due("how many", x.tell(0), i);
        }
        Due.due("a 21st", x.tell(0), Due.FULL);
        Due.due("twenty", x.count(8), 20);
        Due.due("all are right", x.check(), 0);
        Due.due("none", x.count(8), 0);
        Due.due("the first again", x.tell(0), 1);
        Due.due("told", x.told(4), 1);
    }

    /** "0; else 1 and the place (from 0) of the first that isn't so": each place. */
    static void eachPlace() {
        for (int wrong = 0; wrong <= 20; wrong++) {
            NineLedges x = new NineLedges();
            for (int i = 0; i < 6; i++) {
                x.goer(0, 4 * i, 4 * i + 1, 3 * i);
            }
            // OVER behind 3, 5, 8, 11, 14, 17 MINUTES
            for (int i = 1; i <= 20; i++) {
                int over = i < 3 ? 0 : i < 5 ? 1 : Math.min(6, 1 + (i - 2) / 3);
                x.tell(i - 1 == wrong ? over + 1 : i - 1 > wrong ? -7 : over);
            }
            Due.due("place " + wrong, x.check(), wrong == 20 ? 0 : wrong + 1);
            Due.due("none wait then", x.count(8), 0);
            Due.due("MINUTE", x.count(2), 0);
        }
    }

    /** With none that wait all are right. */
    static void noneWait() {
        NineLedges x = new NineLedges();
        Due.due("check", x.check(), 0);
        x.goer(0, 0, 1, 0);
        Due.due("check", x.check(), 0);
        Due.due("no ERROR", Due.errors(x), 0);
    }

    /** "how many are OVER behind 1, 2, .. MINUTES AHEAD": from now on, beyond 9999, too. */
    static void behindOneMinuteAndMore() {
        NineLedges x = new NineLedges();
        x.goer(0, 0, 1, 0);
        x.minutes(2);
        x.tell(0);
        Due.due("not as it is now", x.check(), 1);
        x.tell(1);
        Due.due("behind 1 MINUTE", x.check(), 0);
        for (int i = 0; i < 33; i++) {
            x.minutes(300);
        }
        x.minutes(97);
        x.home(0);
        for (int over : new int[] {0, 0, 1, 1}) {
            x.tell(over);
        }
        Due.due("MINUTE", x.count(2), 9999);
        Due.due("beyond 9999", x.check(), 0);
    }

    /** One more number is any int. */
    static void anyNumberWaits() {
        NineLedges x = new NineLedges();
        int[] all = {LEAST, MOST, Due.BEYOND, Due.FULL, -1, 0};
        for (int i = 0; i < all.length; i++) {
            Due.due("tell", x.tell(all[i]), i + 1);
        }
        Due.due("the first isn't so", x.check(), 1);
        x.tell(0);
        x.tell(256);
        Due.due("the second isn't so", x.check(), 2);
        Due.due("no ERROR", Due.errors(x), 0);
    }

    // ---- count, told

    /** Promise 35: the least and the most of each. */
    static void countEach() {
        NineLedges x = new NineLedges();
        for (int yard = 0; yard < 9; yard++) {
            x.room(2 * yard + 1, 2);
        }
        for (int i = 0; i < 8; i++) {
            x.goer(3, 3 * i, i == 7 ? 20 : 3 * i + 1, 0);
        }
        for (int i = 0; i < 20; i++) {
            x.tell(0);
        }
        Due.feed(x, "11111111111111111111111111111111111111111111111111");
        x.voice(7, 3, 1);
        x.seed(LEAST);
        Due.due("GOERS", x.count(0), 8);
        Due.due("LEDGES", x.count(1), 9);
        Due.due("MINUTE", x.count(2), 0);
        Due.due("ON", x.count(3), 0);
        Due.due("bytes", x.count(7), 50);
        Due.due("numbers that wait", x.count(8), 20);
        Due.due("BODIES", x.count(9), 4);
        Due.due("z", x.count(10), LEAST);
        x.minutes(1);
        Due.due("ON", x.count(3), 8);
        Due.due("OVER", x.count(4), 0);
        x.minutes(20);
        Due.due("ON", x.count(3), 0);
        Due.due("OVER", x.count(4), 8);
        Due.due("MINUTE", x.count(2), 21);
        Due.due("count(11)", x.count(11), Due.BEYOND);
        Due.due("count(-1)", x.count(-1), Due.BEYOND);
        Due.due("count of the least", x.count(LEAST), Due.BEYOND);
        Due.due("count of the most", x.count(MOST), Due.BEYOND);
        Due.due("told", x.told(1), 4);
    }

    /** "TAKINGS .. BACKS": TAKINGS may be below 0. */
    static void takingsBelowZero() {
        NineLedges x = new NineLedges();
        x.room(1, 2);
        Due.text(x, 1, "0-l");
        x.goer(3, 0, 2, 0);
        x.minutes(2);
        Due.due("TAKINGS", x.count(5), -3);
    }

    /** Promise 36: "How many acts have answered an ERROR LOW - k (k 1 .. 5)". */
    static void toldEach() {
        NineLedges x = new NineLedges();
        x.goer(0, 0, 1, 0);
        x.minutes(1);
        for (int i = 0; i < 20; i++) {
            x.tell(0);
        }
        int[] want = new int[6];
        for (int round = 1; round <= 5; round++) {
            for (int k = 1; k <= 5; k++) {
                for (int i = 0; i < k; i++) {
                    Due.due("ERROR " + k, refused(x, k), Due.LOW - k);
                    want[k]++;
                }
            }
            for (int k = 1; k <= 5; k++) {
                Due.due("told(" + k + ")", x.told(k), want[k]);
            }
        }
    }

    private static int refused(NineLedges x, int k) {
        switch (k) {
            case 1:
                return x.room(24, 1);
            case 2:
                return x.trace(0);
            case 3:
                return x.start(0, 1);
            case 4:
                return x.tell(0);
            default:
                return x.as(0, 6);
        }
    }

    /** "BEYOND: another k (counted, too)": behind the answer, and for each k but 1 to 5. */
    static void anotherK() {
        NineLedges x = new NineLedges();
        int told = 0;
        for (int k : new int[] {0, 6, -1, 7, LEAST, MOST, Due.BEYOND, 1000000001}) {
            Due.due("told(" + k + ")", x.told(k), Due.BEYOND);
            told++;
            Due.due("counted, too", x.told(1), told);
        }
        Due.due("no other", x.told(2) + x.told(3) + x.told(4) + x.told(5), 0);
    }
}
