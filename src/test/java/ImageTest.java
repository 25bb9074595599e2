/** Promises 31 to 36: images, what is told, counts, and the promise that an ERROR changes nothing. */
final class ImageTest {
    private ImageTest() {
    }

    public static void main(String[] args) throws Exception {
        Due.each(ImageTest.class);
    }

    static void imageAndRestore() {
        NineLedges x = new NineLedges();
        Due.due("none", x.restore(), Due.NONE);
        x.room(2, 3);
        x.goer(4, 0, 9, 0);
        x.goer(15, 1, 0, 0);
        x.goer(30, 10, 9, 0);
        x.goer(10, 9, 14, 0);
        Due.text(x, 0, "l*2+b");
        Due.text(x, 1, "l-k");
        x.seed(77);
        x.minutes(4);
        Due.feed(x, "n+");
        x.tell(5);
        x.tell(6);
        long before = sum(x);
        Due.due("image", x.image(), 1);
        x.room(2, 1);
        x.room(5, 2);
        x.home(0);
        x.start(0, 500);
        x.become(1, 66);
        x.goer(0, 3, 4, 5);
        Due.text(x, 0, "5");
        Due.text(x, 1, "7");
        x.loose(9);
        x.check();
        x.tell(1);
        Due.due("it changed", sum(x) == before ? 1 : 0, 0);
        Due.due("restore", x.restore(), 4);
        Due.due("all is as it was", sum(x), before);
        Due.due("THE TAPE, too", Due.text(x, 0, "1"), 1);
        x.minutes(5);
        Due.due("it stays", x.restore(), 4);
        Due.due("all is as it was", sum(x), before);
        Due.due("THE TAPE's bytes", Due.text(x, 1, "1"), -10);
        x.restore();
        x.text(0);
        Due.due("TEXTS", x.law(0, 3, 0, 1), 7);
        x.minutes(1);
        Due.due("in place of the one ahead", x.image(), 2);
        x.minutes(10);
        Due.due("restore", x.restore(), 5);
        Due.due("often", x.image(), 3);
    }

    /** A number that hangs on all that an IMAGE keeps, but for what THE TAPE and those that wait hold. */
    private static long sum(NineLedges x) {
        long s = 0;
        for (int yard = 0; yard < 24; yard++) {
            s = s * 31 + x.ofYard(yard, 0);
        }
        for (int goer = 0; goer < x.count(0); goer++) {
            for (int what = 0; what < 13; what++) {
                s = s * 31 + x.ofGoer(goer, what);
            }
        }
        for (int what = 0; what < 11; what++) {
            s = s * 31 + (what == 9 ? 0 : x.count(what));
        }
        return (s * 31 + x.faults()) * 31 + x.law(0, 9, 8, 7) + x.law(1, 9, 8, 7);
    }

    static void notInTheImage() {
        NineLedges x = new NineLedges();
        x.goer(0, 0, 1, 0);
        x.image();
        x.sheet(0, 8, 2);
        x.put(0, 0, 4);
        x.voice(0, 3, 1);
        x.trace(-1);
        x.image();
        x.minutes(1);
        x.restore();
        Due.due("SHEETS stay", x.rooms(0), 1);
        Due.due("SHEETS stay", x.ofYard(0, 0), 4);
        Due.due("THE TRACE stays", x.count(9), 4);
        Due.due("what is told stays", x.told(2), 1);
        Due.due("how often stays", x.image(), 3);
    }

    static void tellAndCheck() {
        NineLedges x = new NineLedges();
        Due.due("none wait", x.check(), 0);
        x.goer(0, 0, 1, 0);
        x.goer(0, 5, 6, 0);
        x.goer(0, 9, 11, 0);
        // OVER behind 1, 2, .. MINUTES: 0 0 2 3 3
        int[] right = {0, 0, 2, 3, 3};
        for (int wrong = 0; wrong <= 5; wrong++) {
            for (int i = 0; i < 5; i++) {
                Due.due("tell", x.tell(i == wrong ? 1 : right[i]), i + 1);
            }
            Due.due("wait", x.count(8), 5);
            Due.due("check", x.check(), wrong == 5 ? 0 : wrong + 1);
            Due.due("none wait then", x.count(8), 0);
        }
        Due.due("MINUTE stays", x.count(2), 0);
        for (int i = 1; i <= 20; i++) {
            Due.due("tell", x.tell(-2000000000), i);
        }
        Due.due("full", x.tell(0), Due.FULL);
        Due.due("twenty", x.count(8), 20);
        Due.due("the first isn't so", x.check(), 1);
        Due.due("told", x.told(4), 1);
        x.minutes(3);
        x.tell(3);
        x.tell(4);
        Due.due("from now on", x.check(), 2);
    }

    static void count() {
        NineLedges x = new NineLedges();
        x.room(1, 2);
        x.room(20, 2);
        x.goer(5, 0, 3, 0);
        x.goer(0, 10, 11, 0);
        x.goer(0, 15, 18, 500);
        x.goer(0, 16, 17, 2);
        x.feed(0x31L, 1);
        x.tell(0);
        x.tell(0);
        x.voice(0, 1, 0);
        x.seed(-1500000000);
        x.minutes(3);
        int[] want = {4, 2, 3, 2, 1, 5, 0, 1, 2, 2, -1500000000};
        for (int what = 0; what < want.length; what++) {
            Due.due("count(" + what + ")", x.count(what), want[what]);
        }
        Due.due("z is no ERROR", x.told(1), 0);
        Due.due("what", x.count(11), Due.BEYOND);
        Due.due("what", x.count(-1), Due.BEYOND);
        Due.due("told", x.told(1), 2);
    }

    static void told() {
        NineLedges x = new NineLedges();
        x.sheet(0, 8, 1);
        x.sheet(1, 16, 1);
        x.room(99, 0);
        x.restore();
        x.restore();
        x.sheet(2, 8, -1);
        x.sheet(2, 8, -1);
        x.sheet(2, 8, -1);
        for (int i = 0; i < 24; i++) {
            x.tell(0);
        }
        for (int i = 0; i < 5; i++) {
            x.move(0, 0, 1, 0, 1);
        }
        for (int k = 1; k <= 5; k++) {
            Due.due("told(" + k + ")", x.told(k), k);
        }
        Due.due("another k", x.told(0), Due.BEYOND);
        Due.due("another k", x.told(6), Due.BEYOND);
        Due.due("another k", x.told(-2147483648), Due.BEYOND);
        Due.due("counted, too", x.told(1), 4);
        Due.text(x, 0, "0-9999*9999*11");
        Due.due("a RANK that looks like an ERROR", x.law(0, 0, 0, 0) < Due.LOW ? 1 : 0, 1);
        Due.due("isn't counted", x.told(1) + x.told(2) + x.told(3) + x.told(4) + x.told(5), 18);
    }
}
