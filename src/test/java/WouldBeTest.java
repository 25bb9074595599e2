/** Promises 16 to 22: what would be. */
final class WouldBeTest {
    private WouldBeTest() {
    }

    public static void main(String[] args) throws Exception {
        Due.each(WouldBeTest.class);
    }

    static void overBy() {
        NineLedges x = new NineLedges();
        Due.due("nobody", x.overBy(), 0);
        x.goer(0, 0, 5, 0);
        Due.due("one YARD a MINUTE", x.overBy(), 7);
        x.start(0, 10);
        Due.due("from START on", x.overBy(), 16);
        x.start(0, 294);
        Due.due("just", x.overBy(), 300);
        x.start(0, 295);
        Due.due("not by 300", x.overBy(), Due.NONE);
        Due.due("told", x.told(2), 1);
        x.minutes(1);
        Due.due("a MINUTE later", x.overBy(), 300);
        x.minutes(300);
        Due.due("all are OVER", x.overBy(), 0);
        for (int i = 0; i < 32; i++) {
            x.minutes(300);
        }
        x.minutes(98);
        x.home(0);
        Due.due("MINUTE", x.count(2), 9999);
        Due.due("beyond 9999", x.overBy(), 7);
    }

    private static NineLedges twoCoffins() {
        NineLedges x = new NineLedges();
        x.goer(10, 3, 9, 0);
        x.goer(10, 4, 0, 0);
        return x;
    }

    static void stuckBy() {
        NineLedges x = twoCoffins();
        Due.due("behind one MINUTE", x.stuckBy(), 1);
        x.minutes(1);
        Due.due("at once", x.stuckBy(), 0);
        x.minutes(5);
        Due.due("still", x.stuckBy(), 0);
        NineLedges y = twoCoffins();
        y.goer(0, 20, 22, 50);
        Due.due("when the third is OVER", y.stuckBy(), 53);
        y.start(2, 297);
        Due.due("just", y.stuckBy(), 300);
        y.start(2, 298);
        Due.due("not by 300", y.stuckBy(), Due.NONE);
        NineLedges z = twoCoffins();
        z.goer(0, 3, 22, 40);
        Due.due("when its START is come", z.stuckBy(), 40);
        z.start(2, 300);
        Due.due("just", z.stuckBy(), 300);
        z.start(2, 301);
        Due.due("not by 300", z.stuckBy(), Due.NONE);
        NineLedges w = new NineLedges();
        Due.due("all are OVER", w.stuckBy(), Due.NONE);
        w.goer(0, 3, 9, 0);
        Due.due("none is stuck", w.stuckBy(), Due.NONE);
        w.start(0, 999);
        Due.due("one that waits for its START isn't stuck", w.stuckBy(), Due.NONE);
        Due.due("told", w.told(2), 3);
        NineLedges v = new NineLedges();
        v.goer(10, 0, 9, 0);
        v.goer(30, 1, 0, 0);
        v.minutes(1);
        Due.due("AT FAULT changes nothing", v.stuckBy(), 0);
        Due.due("nobody yet", v.faults(), 0);
        v.minutes(1);
        Due.due("the WEDDING", v.faults(), 2);
    }

    /** Two COFFINS against one another, without a LEDGE: the first is OVER by 12, if the other lets it. */
    private static NineLedges against(int firstStart, int secondStart) {
        NineLedges x = new NineLedges();
        x.goer(10, 5, 0, firstStart);
        x.goer(10, 0, 5, secondStart);
        return x;
    }

    static void bestStart() {
        NineLedges x = against(0, 0);
        Due.due("as it is", x.overBy(), Due.NONE);
        Due.due("START", x.bestStart(1, 0), 10);
        Due.due("OVER BY", x.bestStart(1, 1), 23);
        Due.due("BACKS", x.bestStart(1, 2), 0);
        x.start(1, 10);
        Due.due("with it", x.overBy(), 23);
        x.start(1, 9);
        Due.due("one less", x.overBy(), Due.NONE);
        Due.due("goer", x.bestStart(2, 0), Due.BEYOND);
        Due.due("goer", x.bestStart(-1, 0), Due.BEYOND);
        Due.due("what", x.bestStart(0, 3), Due.BEYOND);
        Due.due("what", x.bestStart(0, -1), Due.BEYOND);
        x.minutes(1);
        Due.due("ON", x.bestStart(0, 0), Due.STATE);
        Due.due("BEYOND first", x.bestStart(0, 3), Due.BEYOND);
    }

    static void bestStartBeyond() {
        NineLedges x = new NineLedges();
        x.goer(0, 0, 5, 500);
        Due.due("from MINUTE on", x.bestStart(0, 0), 0);
        Due.due("0 and 1 are alike", x.bestStart(0, 1), 7);
        x.minutes(100);
        Due.due("from MINUTE on", x.bestStart(0, 0), 100);
        x.goer(10, 0, 23, 300);
        x.goer(10, 23, 0, 159);
        Due.due("with none", x.bestStart(1, 0), Due.NONE);
        NineLedges y = new NineLedges();
        y.goer(0, 0, 5, 999);
        for (int i = 0; i < 3; i++) {
            y.minutes(300);
        }
        y.minutes(98);
        Due.due("the least of 998 and 999", y.bestStart(0, 0), 998);
        Due.due("999 at most", y.bestStart(0, 1), 7);
        y.minutes(1);
        y.home(0);
        Due.due("999 at most", y.bestStart(0, 0), 999);
        y.minutes(1);
        y.home(0);
        Due.due("no START left", y.bestStart(0, 0), Due.NONE);
        Due.due("SPARE 0", y.spare(0), 0);
        // the first comes to YARD 0 45 MINUTES behind its START; till then the other's way is barred
        NineLedges w = new NineLedges();
        w.goer(10, 23, 0, 15);
        w.goer(10, 0, 23, 0);
        Due.due("sixty of them", w.bestStart(1, 0), Due.NONE);
        w.start(0, 14);
        Due.due("the last of them", w.bestStart(1, 0), 59);
        Due.due("OVER BY with it", w.bestStart(1, 1), 108);
    }

    /** Of STARTS with one OVER BY that with the fewest BACKS; a third GOER alone makes OVER BY. */
    static void fewestBacks() {
        NineLedges x = new NineLedges();
        x.room(2, 2);
        x.goer(9, 8, 0, 0);
        x.goer(61, 2, 5, 0);
        x.goer(0, 20, 22, 200);
        Due.due("BACKS as it is", x.then(100, 1, 9), 1);
        Due.due("OVER BY", x.overBy(), 203);
        Due.due("START", x.bestStart(1, 0), 5);
        Due.due("OVER BY", x.bestStart(1, 1), 203);
        Due.due("BACKS", x.bestStart(1, 2), 0);
    }

    static void spare() {
        NineLedges x = against(0, 40);
        Due.due("till the other finds it on its way", x.spare(0), 31);
        Due.due("60 at most", x.spare(1), 60);
        Due.due("59", against(0, 68).spare(0), 59);
        Due.due("60", against(0, 69).spare(0), 60);
        x.start(0, 5);
        Due.due("less", x.spare(0), 26);
        x.start(0, 31);
        Due.due("none", x.spare(0), 0);
        x.start(0, 32);
        Due.due("stuck", x.spare(0), Due.NONE);
        Due.due("goer", x.spare(2), Due.BEYOND);
        Due.due("goer", x.spare(-1), Due.BEYOND);
        x.start(0, 0);
        x.minutes(1);
        Due.due("ON", x.spare(0), Due.STATE);
        NineLedges y = new NineLedges();
        y.room(2, 2);
        y.goer(61, 2, 5, 0);
        y.goer(10, 14, 0, 7);
        Due.due("BACKS as it is", y.then(100, 0, 9), 0);
        Due.due("more BACKS are none of it", y.spare(0), 21);
        y.start(0, 22);
        Due.due("there it BACKS twice", y.then(100, 0, 9), 2);
    }

    static void spareAtTheEnd() {
        NineLedges x = new NineLedges();
        x.goer(0, 0, 5, 990);
        x.minutes(300);
        x.minutes(300);
        x.minutes(100);
        Due.due("OVER BY", x.overBy(), 296);
        Due.due("by 300", x.spare(0), 4);
        x.minutes(50);
        Due.due("START 999 at most", x.spare(0), 9);
    }

    private static NineLedges oneLedge() {
        NineLedges x = new NineLedges();
        x.room(2, 2);
        x.goer(0, 0, 4, 0);
        x.goer(0, 4, 0, 0);
        return x;
    }

    static void without() {
        NineLedges x = oneLedge();
        Due.due("with it", x.overBy(), 6);
        Due.due("without it", x.without(0), Due.NONE);
        x.room(20, 3);
        Due.due("one that isn't needed", x.without(1), 6);
        x.room(2, 1);
        Due.due("another is the first now", x.without(0), Due.NONE);
        x.room(2, 2);
        x.minutes(2);
        x.room(1, 2);
        Due.due("one is at it", x.ofYard(1, 1), 1);
        Due.due("one is at it", x.without(0), 4);
        x.room(1, 1);
        x.minutes(1);
        Due.due("two are at it", x.ofYard(2, 1), 2);
        Due.due("two are at it", x.without(0), Due.STATE);
        Due.due("no such LEDGE", x.without(2), Due.BEYOND);
        Due.due("no such LEDGE", x.without(-1), Due.BEYOND);
        x.minutes(1);
        Due.due("they are by", x.without(0), 2);
    }

    static void newOne() {
        NineLedges x = oneLedge();
        x.room(2, 1);
        Due.due("the YARD", x.newOne(0), 2);
        Due.due("OVER BY", x.newOne(1), 6);
        Due.due("what", x.newOne(2), Due.BEYOND);
        Due.due("what", x.newOne(-1), Due.BEYOND);
        Due.due("nothing changed", x.count(1), 0);
        x.room(2, 2);
        Due.due("of several the least that is no LEDGE", x.newOne(0), 0);
        NineLedges y = twoCoffins();
        Due.due("two pass at it", y.newOne(0), 4);
        y.goer(0, 0, 1, 999);
        Due.due("with none", y.newOne(0), Due.NONE);
        for (int yard = 10; yard < 19; yard++) {
            y.room(yard, 2);
        }
        Due.due("nine", y.newOne(0), Due.FULL);
        Due.due("BEYOND first", y.newOne(9), Due.BEYOND);
        NineLedges z = new NineLedges();
        z.room(0, 2);
        z.room(1, 2);
        Due.due("nobody: the least", z.newOne(0), 2);
        Due.due("nobody: at once", z.newOne(1), 0);
    }

    static void faults() {
        NineLedges x = new NineLedges();
        x.goer(10, 0, 3, 0);
        x.goer(10, 1, 0, 0);
        x.goer(10, 10, 13, 0);
        x.goer(40, 11, 9, 0);
        Due.due("at first", x.faults(), 0);
        x.minutes(2);
        Due.due("bits", x.faults(), 10);
        Due.due("no BACKS", x.count(6), 0);
        x.become(2, 0);
        x.minutes(1);
        Due.due("one that CAN BACK isn't", x.faults(), 10);
        Due.due("BACKS", x.count(6), 1);
    }

    static void nothingChanges() {
        NineLedges x = oneLedge();
        x.overBy();
        x.stuckBy();
        x.bestStart(0, 0);
        x.spare(0);
        x.without(0);
        x.newOne(0);
        Due.due("MINUTE", x.count(2), 0);
        Due.due("BACKS", x.count(6), 0);
        Due.due("TAKINGS", x.count(5), 0);
        Due.due("LEDGES", x.count(1), 1);
        Due.due("START", x.ofGoer(0, 4), 0);
        Due.due("ON", x.count(3), 0);
        Due.due("z", x.count(10), 1);
    }
}
