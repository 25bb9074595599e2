/** Promises 13 to 15: MINUTES, MINUTES by draws, AHEAD; and the rules of a MINUTE. */
final class MinuteTest {
    private MinuteTest() {
    }

    public static void main(String[] args) throws Exception {
        Due.each(MinuteTest.class);
    }

    static void oneAlone() {
        NineLedges x = new NineLedges();
        x.goer(0, 5, 8, 3);
        Due.due("START is later", x.minutes(2), 0);
        Due.due("at HOME", x.ofGoer(0, 5), 0);
        x.minutes(1);
        Due.due("ON at FROM", x.ofGoer(0, 6), 5);
        Due.due("it is there", x.ofYard(5, 1), 1);
        x.minutes(3);
        Due.due("at TO", x.ofGoer(0, 6), 8);
        Due.due("still ON", x.count(3), 1);
        Due.due("OVER", x.minutes(1), 1);
        Due.due("OVER", x.ofGoer(0, 5), 2);
        Due.due("not ON", x.ofGoer(0, 6), -1);
        Due.due("nobody there", x.ofYard(8, 1), 0);
        Due.due("MINUTE", x.count(2), 7);
        Due.due("no LEDGE, no TOLL", x.count(5), 0);
    }

    static void paces() {
        NineLedges x = new NineLedges();
        x.goer(40, 3, 0, 0);
        x.minutes(1);
        Due.due("no WAIT at FROM", x.ofGoer(0, 7), 0);
        int[] yards = {2, 2, 2, 1, 1, 1, 0, 0, 0};
        int[] waits = {2, 1, 0, 2, 1, 0, 2, 1, 0};
        for (int i = 0; i < yards.length; i++) {
            Due.due("not yet OVER", x.minutes(1), 0);
            Due.due("YARD", x.ofGoer(0, 6), yards[i]);
            Due.due("WAIT", x.ofGoer(0, 7), waits[i]);
        }
        Due.due("OVER", x.minutes(1), 1);
    }

    static void startAndFree() {
        NineLedges x = new NineLedges();
        x.goer(0, 4, 9, 0);
        x.goer(0, 4, 9, 0);
        x.goer(10, 4, 9, 0);
        x.goer(0, 4, 9, 0);
        x.minutes(1);
        Due.due("FROM isn't FREE", x.count(3), 1);
        x.minutes(1);
        Due.due("it was left by a lesser number", x.ofGoer(1, 6), 4);
        x.minutes(2);
        Due.due("the COFFIN goes", x.ofGoer(2, 6), 5);
        Due.due("behind it", x.ofGoer(3, 6), 4);
        x.minutes(1);
        Due.due("WAIT", x.ofGoer(2, 7), 0);
        Due.due("who goes the same way isn't met", x.ofGoer(3, 8), 0);
        Due.due("it waits", x.ofGoer(3, 6), 4);
        NineLedges y = new NineLedges();
        y.room(4, 2);
        y.goer(0, 4, 9, 0);
        y.goer(0, 4, 0, 0);
        y.goer(0, 4, 0, 0);
        y.minutes(1);
        Due.due("a ROOM of 2", y.ofYard(4, 1), 2);
        Due.due("no TOLL at FROM", y.count(5), 0);
    }

    static void equalRanks() {
        NineLedges x = new NineLedges();
        x.goer(4, 6, 2, 0);
        x.goer(4, 3, 9, 0);
        x.room(2, 2);
        x.minutes(2);
        Due.due("the lesser number goes", x.ofGoer(0, 6), 5);
        Due.due("the greater one, too", x.ofGoer(1, 6), 4);
        x.minutes(1);
        Due.due("the lesser number doesn't BACK", x.ofGoer(0, 8), 0);
        Due.due("the greater one BACKS", x.ofGoer(1, 8), 1);
        Due.due("it stands", x.ofGoer(1, 6), 4);
        Due.due("BACKS", x.count(6), 1);
        x.minutes(1);
        Due.due("one can't follow yet", x.ofGoer(0, 6), 5);
        Due.due("it goes back", x.ofGoer(1, 6), 3);
        x.minutes(1);
        Due.due("one follows", x.ofGoer(0, 6), 4);
        Due.due("to the LEDGE", x.ofGoer(1, 6), 2);
        Due.due("where it BACKS no more", x.ofGoer(1, 8), 0);
        Due.due("TOLL there", x.count(5), 4);
        x.minutes(1);
        Due.due("it comes on", x.ofGoer(0, 6), 3);
        Due.due("who hears waits", x.ofGoer(1, 6), 2);
        x.minutes(1);
        Due.due("it is at the LEDGE", x.ofGoer(0, 6), 2);
        Due.due("and the other goes in the same MINUTE", x.ofGoer(1, 6), 3);
        x.minutes(1);
        Due.due("OVER", x.ofGoer(0, 5), 2);
        Due.due("and on", x.ofGoer(1, 6), 4);
        Due.due("TIMES", x.ofGoer(1, 9), 1);
        Due.due("TIMES", x.ofGoer(0, 9), 0);
    }

    static void lessRank() {
        NineLedges x = new NineLedges();
        x.goer(2, 3, 9, 0);
        x.goer(5, 4, 0, 0);
        x.minutes(1);
        Due.due("both ON", x.count(3), 2);
        x.minutes(1);
        Due.due("the lesser RANK BACKS", x.ofGoer(0, 8), 1);
        Due.due("the greater doesn't", x.ofGoer(1, 8), 0);
        NineLedges y = new NineLedges();
        Due.text(y, 0, "0-l");
        y.goer(2, 3, 9, 0);
        y.goer(5, 4, 0, 0);
        y.minutes(2);
        Due.due("by a TEXT the other one", y.ofGoer(0, 8), 0);
        Due.due("by a TEXT the other one", y.ofGoer(1, 8), 1);
    }

    static void backAsFarAsTheEnd() {
        NineLedges x = new NineLedges();
        x.goer(2, 1, 9, 0);
        x.goer(5, 2, 0, 0);
        x.minutes(3);
        Due.due("back beyond FROM", x.ofGoer(0, 6), 0);
        Due.due("the other follows", x.ofGoer(1, 6), 1);
        x.minutes(5);
        Due.due("no YARD there", x.ofGoer(0, 6), 0);
        Due.due("it still BACKS", x.ofGoer(0, 8), 1);
        Due.due("and the other waits", x.ofGoer(1, 6), 1);
        Due.due("once", x.count(6), 1);
        Due.due("stuck", x.stuckBy(), 0);
        x.room(0, 2);
        x.minutes(1);
        Due.due("a LEDGE there lets one in", x.ofYard(0, 1), 2);
        Due.due("it still BACKS there", x.ofGoer(0, 8), 1);
    }

    private static NineLedges twoLedges(int km) {
        NineLedges x = new NineLedges();
        x.room(2, 2);
        x.room(6, 2);
        x.goer(km, 2, 9, 0);
        return x;
    }

    static void hearing() {
        NineLedges x = twoLedges(0);
        x.goer(0, 5, 0, 0);
        x.minutes(2);
        Due.due("0 is first, and 1 isn't yet there then", x.ofGoer(0, 6), 2);
        NineLedges y = twoLedges(0);
        y.goer(0, 6, 0, 0);
        y.minutes(2);
        Due.due("at the next LEDGE isn't behind this one", y.ofGoer(0, 6), 3);
        NineLedges z = twoLedges(0);
        z.goer(0, 8, 0, 0);
        z.minutes(2);
        Due.due("behind the next LEDGE, neither", z.ofGoer(0, 6), 3);
        NineLedges v = twoLedges(0);
        v.room(6, 1);
        v.goer(10, 23, 0, 0);
        v.minutes(2);
        Due.due("to the end of THE PATH", v.ofGoer(0, 6), 2);
        NineLedges u = twoLedges(0);
        u.goer(0, 5, 9, 0);
        u.minutes(2);
        Due.due("who goes the same way isn't heard", u.ofGoer(0, 6), 3);
        NineLedges w = twoLedges(0);
        w.goer(0, 1, 0, 0);
        w.minutes(2);
        Due.due("who is behind one's back isn't heard", w.ofGoer(0, 6), 3);
        NineLedges down = new NineLedges();
        down.room(20, 2);
        down.goer(0, 20, 0, 0);
        down.goer(10, 4, 23, 0);
        down.minutes(2);
        Due.due("down the numbers, too", down.ofGoer(0, 6), 20);
    }

    static void notHearing() {
        NineLedges x = twoLedges(60);
        x.goer(0, 5, 0, 0);
        x.minutes(2);
        Due.due("BLIND", x.ofGoer(0, 6), 3);
        NineLedges y = twoLedges(40);
        y.goer(0, 5, 0, 0);
        y.minutes(2);
        Due.due("SLEEPING", y.ofGoer(0, 6), 3);
    }

    static void atFault() {
        NineLedges x = new NineLedges();
        x.goer(34, 3, 0, 0);
        x.goer(12, 2, 9, 0);
        x.goer(25, 20, 22, 0);
        x.minutes(1);
        Due.due("not yet", x.faults(), 0);
        x.minutes(1);
        Due.due("the WEDDING should, and can't", x.faults(), 1);
        Due.due("BACKS", x.count(6), 0);
        Due.due("it doesn't BACK", x.ofGoer(0, 8), 0);
        x.become(0, 35);
        x.minutes(1);
        Due.due("now it BACKS", x.ofGoer(0, 8), 1);
        Due.due("and is AT FAULT all the same", x.faults(), 1);
        x.home(1);
        x.start(1, 999);
        x.room(4, 2);
        x.minutes(2);
        Due.due("not OVER", x.ofGoer(0, 5), 1);
        Due.due("till it is OVER", x.faults(), 1);
        x.minutes(5);
        Due.due("OVER", x.ofGoer(0, 5), 2);
        Due.due("not any more", x.faults(), 0);
    }

    static void tollAndTakings() {
        NineLedges x = new NineLedges();
        x.room(3, 2);
        x.room(5, 2);
        Due.text(x, 1, "k*50+t+l");
        x.goer(7, 2, 7, 0);
        x.minutes(2);
        Due.due("at LEDGE 0 in MINUTE 2", x.count(5), 9);
        x.minutes(1);
        Due.due("no LEDGE", x.count(5), 9);
        x.minutes(1);
        Due.due("at LEDGE 1 in MINUTE 4", x.count(5), 70);
        NineLedges y = new NineLedges();
        y.room(3, 2);
        Due.text(y, 1, "0-200");
        y.goer(0, 2, 4, 0);
        y.minutes(4);
        Due.due("held", y.count(5), -99);
        Due.due("as it is", y.count(5), -99);
    }

    static void rankByTimes() {
        NineLedges x = new NineLedges();
        Due.text(x, 0, "n+b*5");
        x.goer(0, 3, 20, 0);
        x.goer(0, 4, 0, 0);
        Due.due("RANK", x.ofGoer(0, 12), 0);
        x.minutes(2);
        Due.due("0 BACKS", x.ofGoer(0, 8), 1);
        Due.due("RANK by TIMES", x.ofGoer(0, 12), 5);
        Due.due("RANK by TIMES", x.ofGoer(1, 12), 1);
    }

    static void draws() {
        NineLedges x = new NineLedges();
        Due.due("loose", x.loose(1), 0);
        Due.due("one draw", x.count(10), 1103527590);
        Due.due("MINUTE", x.count(2), 1);
        int z = 5;
        x.seed(z);
        x.loose(300);
        for (int i = 0; i < 300; i++) {
            z = z * 1103515245 + 12345;
        }
        Due.due("300 draws", x.count(10), z);
        Due.due("MINUTE", x.count(2), 301);
        int fogs = 0;
        for (int i = 0; i < 100; i++) {
            boolean fog = ((i * 1103515245 + 12345) >>> 8) % 4 == 0;
            fogs += fog ? 1 : 0;
            Due.due("by FOG one doesn't hear", yardByDraw(i), fog ? 3 : 2);
        }
        Due.due("FOG was seen", fogs > 9 ? 1 : 0, 1);
    }

    /** Where one that would wait at a LEDGE is behind a MINUTE by draws. */
    private static int yardByDraw(int z) {
        NineLedges x = new NineLedges();
        x.room(2, 2);
        x.goer(0, 2, 9, 0);
        x.goer(10, 20, 0, 0);
        x.minutes(1);
        x.seed(z);
        x.loose(1);
        return x.ofGoer(0, 6);
    }

    static void limits() {
        NineLedges x = new NineLedges();
        Due.due("n", x.minutes(0), Due.BEYOND);
        Due.due("n", x.minutes(301), Due.BEYOND);
        Due.due("n", x.minutes(-1), Due.BEYOND);
        Due.due("n", x.loose(0), Due.BEYOND);
        Due.due("n", x.loose(301), Due.BEYOND);
        Due.due("n", x.loose(-5), Due.BEYOND);
        for (int i = 0; i < 33; i++) {
            Due.due("300", x.minutes(300), 0);
        }
        Due.due("MINUTE", x.count(2), 9900);
        Due.due("too many", x.minutes(100), Due.STATE);
        Due.due("too many", x.loose(100), Due.STATE);
        Due.due("BEYOND first", x.minutes(301), Due.BEYOND);
        Due.due("MINUTE stays", x.count(2), 9900);
        Due.due("no draw", x.count(10), 1);
        x.goer(0, 0, 2, 0);
        Due.due("beyond 9999 AHEAD", x.then(300, 0, 5), 2);
        Due.due("the last", x.minutes(99), 1);
        Due.due("MINUTE", x.count(2), 9999);
        NineLedges y = new NineLedges();
        for (int i = 0; i < 33; i++) {
            y.loose(300);
        }
        Due.due("the last by draws", y.loose(99), 0);
        Due.due("MINUTE", y.count(2), 9999);
        Due.due("no more", x.minutes(1), Due.STATE);
        Due.due("no more", x.loose(1), Due.STATE);
        Due.due("told", x.told(3), 4);
        Due.due("told", x.told(1), 7);
    }

    private static NineLedges twoToMeet() {
        NineLedges x = new NineLedges();
        x.room(2, 2);
        x.goer(10, 0, 5, 2);
        x.goer(5, 9, 0, 0);
        return x;
    }

    static void ahead() {
        NineLedges x = twoToMeet();
        Due.due("by 0", x.then(0, 0, 5), 0);
        Due.due("by 0", x.then(0, 0, 6), -1);
        Due.due("by 2", x.then(2, 0, 6), 0);
        Due.due("by 3", x.then(3, 0, 6), 1);
        Due.due("by 3", x.then(3, 0, 7), 1);
        Due.due("MINUTE stays", x.count(2), 0);
        Due.due("nobody is ON", x.count(3), 0);
        for (int n = 0; n <= 40; n++) {
            NineLedges y = twoToMeet();
            if (n > 0) {
                y.minutes(n);
            }
            for (int what = 5; what <= 9; what++) {
                Due.due("then(" + n + ", 0, " + what + ")", x.then(n, 0, what), y.ofGoer(0, what));
                Due.due("then(0, 0, " + what + ") by then", y.then(0, 0, what), y.ofGoer(0, what));
            }
        }
        Due.due("n", x.then(-1, 0, 5), Due.BEYOND);
        Due.due("n", x.then(301, 0, 5), Due.BEYOND);
        Due.due("goer", x.then(1, 2, 5), Due.BEYOND);
        Due.due("goer", x.then(1, -1, 5), Due.BEYOND);
        Due.due("what", x.then(1, 0, 4), Due.BEYOND);
        Due.due("what", x.then(1, 0, 10), Due.BEYOND);
    }
}
