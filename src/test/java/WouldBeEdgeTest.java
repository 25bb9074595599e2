/** The edges that section 3 of the Terms and promises 16 to 22 name: each sentence has a test of its own. */
final class WouldBeEdgeTest {
    private WouldBeEdgeTest() {
    }

    public static void main(String[] args) throws Exception {
        Due.each(WouldBeEdgeTest.class);
    }

    private static void pass(NineLedges x, int minutes) {
        for (int left = minutes; left > 0; left -= 300) {
            x.minutes(Math.min(300, left));
        }
        Due.due("MINUTE", x.count(2), minutes);
    }

    /** Two that can't BACK stand against one another from MINUTE 1 on. */
    private static NineLedges jammed() {
        NineLedges x = new NineLedges();
        x.goer(10, 3, 9, 0);
        x.goer(10, 4, 0, 0);
        return x;
    }

    // ---- OVER BY

    /** "the least number of MINUTES (0 to 300) behind which all GOERS are OVER": 0. */
    static void overBy0() {
        NineLedges x = new NineLedges();
        Due.due("nobody", x.overBy(), 0);
        x.goer(0, 0, 1, 0);
        Due.due("one at HOME", x.overBy(), 3);
        x.minutes(2);
        Due.due("one at TO", x.overBy(), 1);
        x.minutes(1);
        Due.due("all are OVER", x.overBy(), 0);
        x.goer(0, 0, 1, 0);
        Due.due("all but one", x.overBy(), 3);
    }

    /** The same: 300, and no more. */
    static void overBy300() {
        NineLedges x = new NineLedges();
        x.goer(0, 0, 1, 298);
        Due.due("299 and 300", x.overBy(), 300);
        x.start(0, 297);
        Due.due("one less", x.overBy(), 299);
        x.start(0, 299);
        Due.due("one more", x.overBy(), Due.NONE);
        x.minutes(1);
        Due.due("a MINUTE later", x.overBy(), 300);
        Due.due("told", x.told(2), 1);
    }

    /** The last of all counts, whatever its number. */
    static void overByTheLast() {
        for (int last = 0; last < 8; last++) {
            NineLedges x = new NineLedges();
            for (int i = 0; i < 8; i++) {
                x.goer(0, 3 * i, i == last ? 3 * i + 2 : 3 * i + 1, i == last ? 7 : 0);
            }
            Due.due("GOER " + last + " is the last", x.overBy(), 10);
        }
    }

    /** Long whiles without any change don't end it while a START is to come. */
    static void overByWithWhiles() {
        NineLedges x = new NineLedges();
        x.goer(0, 0, 1, 5);
        x.goer(0, 0, 1, 100);
        x.goer(0, 0, 1, 298);
        Due.due("OVER BY", x.overBy(), 300);
        pass(x, 250);
        Due.due("OVER BY", x.overBy(), 50);
    }

    // ---- STUCK BY

    /** "the least number of MINUTES (0 to 300) behind which one MINUTE more would leave all GOERS as they are": 0. */
    static void stuckBy0() {
        NineLedges x = jammed();
        Due.due("they have to set out", x.stuckBy(), 1);
        x.minutes(1);
        Due.due("stuck", x.stuckBy(), 0);
        x.minutes(1);
        Due.due("one is AT FAULT", x.faults(), 2);
        Due.due("still", x.stuckBy(), 0);
    }

    /** The same: 300, and no more. */
    static void stuckBy300() {
        NineLedges x = jammed();
        x.start(0, 300);
        x.start(1, 300);
        Due.due("300", x.stuckBy(), 300);
        x.start(1, 299);
        Due.due("300", x.stuckBy(), 300);
        x.start(0, 299);
        Due.due("299", x.stuckBy(), 299);
        x.start(0, 301);
        x.start(1, 301);
        Due.due("301", x.stuckBy(), Due.NONE);
        x.minutes(1);
        Due.due("a MINUTE later", x.stuckBy(), 300);
        Due.due("told", x.told(2), 1);
    }

    /** "as they are (where they are ..": one that goes on alone is enough. */
    static void stuckByTheLastThatGoes() {
        NineLedges x = jammed();
        x.goer(0, 10, 20, 0);
        Due.due("till it is OVER", x.stuckBy(), 12);
        x.minutes(12);
        Due.due("OVER", x.count(4), 1);
        Due.due("now", x.stuckBy(), 0);
    }

    /** "WAIT": while it is counted down nobody is stuck. */
    static void stuckByWait() {
        NineLedges x = new NineLedges();
        x.goer(40, 2, 9, 0);
        x.goer(30, 4, 0, 0);
        int[] waits = {0, 2, 1, 0};
        for (int i = 0; i < waits.length; i++) {
            Due.due("in MINUTE " + i, x.stuckBy(), 4 - i);
            x.minutes(1);
            Due.due("WAIT", x.ofGoer(0, 7), waits[i]);
        }
        Due.due("now", x.stuckBy(), 0);
    }

    /** "BACK": one that begins to BACK isn't as it was. */
    static void stuckByBack() {
        NineLedges x = new NineLedges();
        x.goer(1, 0, 9, 0);
        x.goer(10, 1, 0, 0);
        Due.due("at first", x.stuckBy(), 2);
        x.minutes(1);
        Due.due("it will BACK", x.stuckBy(), 1);
        x.minutes(1);
        Due.due("it BACKS", x.ofGoer(0, 8), 1);
        Due.due("no YARD is there", x.stuckBy(), 0);
    }

    /** "though not all are OVER". */
    static void notStuckWhenAllAreOver() {
        NineLedges x = new NineLedges();
        Due.due("nobody", x.stuckBy(), Due.NONE);
        x.goer(0, 0, 1, 0);
        Due.due("one that goes", x.stuckBy(), Due.NONE);
        x.minutes(3);
        Due.due("OVER", x.stuckBy(), Due.NONE);
        Due.due("told", x.told(2), 3);
    }

    /** "and all that are at HOME have a START that is MINUTE then, or less". */
    static void stuckWithOneAtHome() {
        NineLedges x = jammed();
        x.goer(0, 3, 9, 20);
        Due.due("behind 20 MINUTES its START is MINUTE", x.stuckBy(), 20);
        x.minutes(19);
        Due.due("START is MINUTE + 1", x.stuckBy(), 1);
        x.minutes(1);
        Due.due("START is MINUTE", x.stuckBy(), 0);
        x.minutes(1);
        Due.due("START is less", x.stuckBy(), 0);
        Due.due("at HOME", x.ofGoer(2, 5), 0);
        x.start(2, 22);
        Due.due("START is MINUTE + 1", x.stuckBy(), 1);
        x.start(2, 21);
        Due.due("START is MINUTE", x.stuckBy(), 0);
        x.start(2, 400);
        Due.due("later than 300", x.stuckBy(), Due.NONE);
    }

    /** One that waits at a LEDGE because of whom it hears is stuck with them: there is no FOG AHEAD. */
    static void stuckWithOneThatHears() {
        NineLedges x = jammed();
        x.room(12, 2);
        x.goer(5, 12, 0, 0);
        x.goer(30, 7, 14, 0);
        x.goer(30, 11, 5, 0);
        Due.due("a second pair stands by MINUTE 3", x.stuckBy(), 3);
        x.minutes(3);
        Due.due("it waits", x.ofGoer(2, 6), 12);
        Due.due("stuck", x.stuckBy(), 0);
        Due.due("OVER BY", x.overBy(), Due.NONE);
    }

    /** All eight are jammed, each pair by itself. */
    static void stuckAllEight() {
        NineLedges x = new NineLedges();
        for (int i = 0; i < 4; i++) {
            x.goer(30, 4 * i + 1, 23, 10 * i);
            x.goer(30, 4 * i + 2, 0, 10 * i);
        }
        Due.due("by the last START", x.stuckBy(), 30);
        Due.due("OVER BY", x.overBy(), Due.NONE);
        x.start(6, 31);
        x.start(7, 31);
        Due.due("by the last START", x.stuckBy(), 31);
        x.minutes(31);
        Due.due("stuck", x.stuckBy(), 0);
        Due.due("none will be OVER", x.overBy(), Due.NONE);
    }

    /** A GOER that restore() took away neither has a START to come nor stands in the way. */
    static void whoIsGoneDoesNotCount() {
        NineLedges x = jammed();
        x.image();
        x.goer(0, 20, 21, 900);
        x.goer(0, 2, 1, 0);
        Due.due("one is to come", x.stuckBy(), Due.NONE);
        x.restore();
        Due.due("nobody is", x.stuckBy(), 1);
        x.minutes(1);
        Due.due("stuck", x.stuckBy(), 0);
        NineLedges y = new NineLedges();
        y.image();
        y.goer(30, 5, 9, 0);
        y.minutes(1);
        y.restore();
        y.goer(30, 6, 4, 0);
        Due.due("nobody is in the way", y.overBy(), 4);
        Due.due("nor is anybody there", y.ofYard(5, 1), 0);
    }

    /** One at HOME whose FROM is FREE will set out: that is a change. */
    static void stuckOnlyWhenAllHaveSetOut() {
        NineLedges x = jammed();
        x.goer(10, 5, 0, 30);
        Due.due("it sets out in MINUTE 30", x.stuckBy(), 30);
        x.minutes(29);
        Due.due("it sets out", x.stuckBy(), 1);
        x.minutes(1);
        Due.due("ON", x.ofGoer(2, 6), 5);
        Due.due("stuck", x.stuckBy(), 0);
    }

    // ---- BEST START

    /** Who goes down from 23 from s on leaves YARD 0 FREE for GOER 1 by START s + 45 and no earlier. */
    private static NineLedges barred(int s) {
        NineLedges x = new NineLedges();
        x.goer(10, 23, 0, s);
        x.goer(10, 0, 23, 0);
        return x;
    }

    /** "of all STARTS from MINUTE on (60 of them ..)": the last of them. */
    static void sixtyStarts() {
        NineLedges x = barred(14);
        Due.due("59", x.bestStart(1, 0), 59);
        x.start(0, 15);
        Due.due("60 is one too many", x.bestStart(1, 0), Due.NONE);
        Due.due("60 is one too many", x.bestStart(1, 1), Due.NONE);
        Due.due("60 is one too many", x.bestStart(1, 2), Due.NONE);
        x.start(1, 500);
        x.minutes(1);
        Due.due("from MINUTE 1 on it is the last", x.bestStart(1, 0), 60);
        Due.due("OVER BY", x.bestStart(1, 1), 108);
        Due.due("told", x.told(2), 3);
    }

    /** "999 at most": of fewer than sixty. */
    static void startsTo999() {
        for (int minute : new int[] {940, 941, 950}) {
            NineLedges x = barred(954);
            x.start(1, 999);
            pass(x, minute);
            Due.due("999", x.bestStart(1, 0), 999);
            x.start(0, 955);
            Due.due("1000 is too late", x.bestStart(1, 0), Due.NONE);
        }
        NineLedges y = barred(953);
        y.start(1, 999);
        pass(y, 940);
        Due.due("998", y.bestStart(1, 0), 998);
    }

    /** "from MINUTE on": MINUTE itself, though it is behind the next one, and none ahead of it. */
    static void startsFromMinute() {
        for (int minute : new int[] {0, 1, 300, 998, 999}) {
            NineLedges x = new NineLedges();
            x.goer(0, 0, 1, 0);
            pass(x, minute);
            x.home(0);
            Due.due("MINUTE", x.bestStart(0, 0), minute);
            Due.due("OVER BY", x.bestStart(0, 1), 3);
            Due.due("BACKS", x.bestStart(0, 2), 0);
        }
    }

    /** Beyond MINUTE 999 there is no START to try. */
    static void noStartLeft() {
        NineLedges x = new NineLedges();
        x.goer(0, 0, 1, 5);
        pass(x, 1000);
        x.home(0);
        for (int what = 0; what <= 2; what++) {
            Due.due("what " + what, x.bestStart(0, what), Due.NONE);
        }
        Due.due("all will be OVER as it is", x.overBy(), 3);
        Due.due("told", x.told(2), 3);
    }

    /** "that with which OVER BY is least": not the first that will do. */
    static void leastOverBy() {
        NineLedges x = new NineLedges();
        x.goer(30, 6, 0, 0);
        x.goer(10, 0, 5, 3);
        Due.due("they would stand against one another", x.overBy(), Due.NONE);
        Due.due("behind the other", x.bestStart(1, 0), 7);
        Due.due("OVER BY", x.bestStart(1, 1), 19);
        Due.due("the other can wait for it", x.bestStart(0, 0), 12);
        Due.due("OVER BY", x.bestStart(0, 1), 21);
        Due.due("its own START doesn't matter", x.start(1, 999), 3);
        Due.due("behind the other", x.bestStart(1, 0), 7);
        Due.due("nor is it changed", x.ofGoer(1, 4), 999);
    }

    /** One that waits for another anyway may set out at once. */
    static void leastOfManyAlike() {
        NineLedges x = new NineLedges();
        x.room(2, 2);
        x.goer(10, 6, 0, 0);
        x.goer(10, 2, 5, 30);
        Due.due("OVER BY as it is", x.overBy(), 37);
        Due.due("START", x.bestStart(1, 0), 0);
        Due.due("OVER BY", x.bestStart(1, 1), 14);
        x.start(1, 7);
        Due.due("the last START that is as good", x.overBy(), 14);
        x.start(1, 8);
        Due.due("a START that is just too late", x.overBy(), 15);
    }

    /** GOER 1 BACKS once with a START up to 4 (by GOER 0), or from 41 to 44 (by GOER 3), else not; all can be OVER. */
    private static NineLedges backsBySomeStarts() {
        NineLedges x = new NineLedges();
        x.room(2, 2);
        x.goer(9, 8, 0, 0);
        x.goer(61, 2, 5, 0);
        x.goer(0, 20, 22, 200);
        x.goer(31, 8, 0, 40);
        return x;
    }

    /** "of several that with the fewest BACKS by then, then the least": later ones with as few or more don't count. */
    static void fewestBacks() {
        NineLedges x = backsBySomeStarts();
        for (int start = 0; start < 60; start++) {
            x.start(1, start);
            Due.due("OVER BY with START " + start, x.overBy(), 203);
            boolean backs = start <= 4 || start >= 41 && start <= 44;
            Due.due("BACKS with START " + start, x.then(203, 1, 9), backs ? 1 : 0);
        }
        Due.due("START", x.bestStart(1, 0), 5);
        Due.due("OVER BY", x.bestStart(1, 1), 203);
        Due.due("BACKS", x.bestStart(1, 2), 0);
    }

    /** "BACKS by then": those that were before count as well. */
    static void backsOfBefore() {
        NineLedges x = new NineLedges();
        x.room(2, 2);
        x.goer(1, 3, 6, 0);
        x.goer(5, 4, 0, 0);
        x.goer(0, 20, 21, 50);
        x.minutes(2);
        Due.due("BACKS", x.count(6), 1);
        Due.due("by then", x.bestStart(2, 2), 1);
        Due.due("SPARE isn't less for it", x.spare(2), 60);
    }

    // ---- SPARE

    /** GOER 0 has to be at YARD 0 by the START of GOER 1, which is 9 MINUTES behind its own. */
    private static NineLedges against(int other) {
        NineLedges x = new NineLedges();
        x.goer(10, 5, 0, 0);
        x.goer(10, 0, 5, other);
        return x;
    }

    /** "by how many MINUTES (0 to 60 ..)": the least; a START of 0 is as good as one of 1. */
    static void spare0() {
        NineLedges x = against(10);
        Due.due("from 0", x.spare(0), 1);
        x.start(0, 1);
        Due.due("from 1", x.spare(0), 0);
        x.start(0, 2);
        Due.due("from 2", x.spare(0), Due.NONE);
        Due.due("from 0", against(9).spare(0), Due.NONE);
        Due.due("told", x.told(2), 1);
    }

    /** The most: 60. */
    static void spare60() {
        Due.due("59", against(68).spare(0), 59);
        Due.due("60", against(69).spare(0), 60);
        Due.due("60 again", against(70).spare(0), 60);
        Due.due("60 again", against(90).spare(0), 60);
    }

    /** "(.. START 999 at most)". */
    static void spareTo999() {
        for (int start : new int[] {938, 939, 940, 941, 998, 999}) {
            NineLedges x = new NineLedges();
            x.goer(0, 0, 1, start);
            pass(x, 900);
            Due.due("from " + start, x.spare(0), Math.min(60, 999 - start));
        }
    }

    /** A START that is over counts from where it was. */
    static void spareOfAStartThatIsOver() {
        NineLedges x = new NineLedges();
        x.goer(0, 0, 1, 930);
        pass(x, 1200);
        x.home(0);
        Due.due("OVER BY", x.overBy(), 3);
        Due.due("60", x.spare(0), 60);
        x.start(0, 990);
        Due.due("9", x.spare(0), 9);
        x.start(0, 999);
        Due.due("0", x.spare(0), 0);
    }

    /** "for each number up to that, OVER BY is no none": beyond 300 it is. */
    static void spareWithin300() {
        NineLedges x = new NineLedges();
        x.goer(0, 0, 1, 298);
        Due.due("OVER BY 300", x.spare(0), 0);
        x.start(0, 293);
        Due.due("OVER BY 295", x.spare(0), 5);
        x.start(0, 238);
        Due.due("OVER BY 240", x.spare(0), 60);
        x.start(0, 299);
        Due.due("OVER BY 301", x.spare(0), Due.NONE);
    }

    /** "for each number up to that": a later one that would do again is none of it. */
    static void spareEndsAtTheFirstThatFails() {
        NineLedges x = against(30);
        Due.due("SPARE", x.spare(0), 21);
        x.start(0, 22);
        Due.due("22 fails", x.overBy(), Due.NONE);
        x.start(0, 45);
        Due.due("45 would do again", x.overBy() > 0);
    }

    /** "and BACKS by then are no more than as it is": more end it, as many or fewer don't. */
    static void spareByBacks() {
        NineLedges x = backsBySomeStarts();
        Due.due("as it is it BACKS once: never more", x.spare(1), 60);
        x.start(1, 5);
        Due.due("not at all, till 41", x.spare(1), 35);
        x.start(1, 40);
        Due.due("not at all, till 41", x.spare(1), 0);
        x.start(1, 41);
        Due.due("once, and then not at all", x.spare(1), 60);
        x.start(1, 45);
        Due.due("not at all", x.spare(1), 60);
    }

    // ---- WITHOUT

    /** "OVER BY, if that YARD had a ROOM of 1", by its number: each of them. */
    static void withoutEach() {
        NineLedges x = new NineLedges();
        for (int yard = 1; yard <= 17; yard += 2) {
            x.room(yard, 2 + yard % 4);
        }
        Due.due("nine", x.count(1), 9);
        for (int i = 0; i < 9; i++) {
            Due.due("nobody", x.without(i), 0);
        }
        Due.due("no tenth", x.without(9), Due.BEYOND);
        Due.due("-1", x.without(-1), Due.BEYOND);
        x.goer(30, 0, 4, 0);
        x.goer(30, 4, 0, 0);
        x.room(1, 1);
        Due.due("with it", x.overBy(), 7);
        Due.due("LEDGE 0 is needed", x.without(0), Due.NONE);
        for (int i = 1; i < 8; i++) {
            Due.due("LEDGE " + i + " isn't", x.without(i), 7);
        }
        Due.due("no ninth", x.without(8), Due.BEYOND);
        Due.due("all are there yet", x.count(1), 8);
    }

    /** A LEDGE at YARD 0, and one at YARD 23. */
    static void withoutTheEnds() {
        NineLedges x = new NineLedges();
        x.room(0, 2);
        x.room(23, 2);
        x.goer(30, 0, 1, 0);
        x.goer(30, 1, 0, 0);
        Due.due("with both", x.overBy(), 4);
        Due.due("without the last", x.without(1), 4);
        Due.due("without the first", x.without(0), Due.NONE);
        NineLedges y = new NineLedges();
        y.room(0, 2);
        y.room(23, 2);
        y.goer(30, 23, 22, 0);
        y.goer(30, 22, 23, 0);
        Due.due("with both", y.overBy(), 4);
        Due.due("without the first", y.without(0), 4);
        Due.due("without the last", y.without(1), Due.NONE);
    }

    /** Without any LEDGE there is no such LEDGE. */
    static void withoutNone() {
        NineLedges x = new NineLedges();
        Due.due("0", x.without(0), Due.BEYOND);
        x.room(23, 2);
        Due.due("0", x.without(0), 0);
        Due.due("1", x.without(1), Due.BEYOND);
        x.room(23, 1);
        Due.due("0", x.without(0), Due.BEYOND);
    }

    /** "STATE: more than one are at it." */
    static void withoutOneThatIsFull() {
        NineLedges x = new NineLedges();
        x.room(4, 5);
        for (int i = 0; i < 5; i++) {
            x.goer(0, 4, 5, 0);
        }
        x.minutes(1);
        for (int n = 5; n > 1; n--) {
            Due.due("how many are at it", x.ofYard(4, 1), n);
            Due.due("more than one", x.without(0), Due.STATE);
            x.minutes(1);
        }
        Due.due("one is at it", x.ofYard(4, 1), 1);
        Due.due("one is enough", x.without(0), 2);
        x.minutes(1);
        Due.due("none is at it", x.without(0), 1);
        Due.due("told", x.told(3), 4);
        Due.due("its ROOM is as it was", x.ofYard(4, 0), 5);
    }

    // ---- A NEW ONE

    /** "of all YARDS that are no LEDGES": the last YARD, which alone will do. */
    static void newOneAtTheEnd() {
        NineLedges x = new NineLedges();
        x.room(22, 2);
        x.goer(30, 23, 20, 0);
        x.goer(30, 22, 23, 0);
        x.goer(30, 22, 23, 0);
        Due.due("as it is", x.overBy(), Due.NONE);
        Due.due("YARD 23", x.newOne(0), 23);
        Due.due("OVER BY", x.newOne(1), 6);
        NineLedges y = new NineLedges();
        y.room(1, 2);
        y.goer(30, 0, 3, 0);
        y.goer(30, 1, 0, 0);
        y.goer(30, 1, 0, 0);
        Due.due("YARD 0", y.newOne(0), 0);
        Due.due("OVER BY", y.newOne(1), 6);
        Due.due("no LEDGE has come", y.count(1), 1);
    }

    /** "that which .. makes OVER BY least": a greater YARD, if it is better. */
    static void newOneThatIsBest() {
        NineLedges x = new NineLedges();
        x.goer(30, 0, 1, 0);
        x.goer(30, 1, 0, 0);
        Due.due("YARD 1", x.newOne(0), 1);
        Due.due("OVER BY", x.newOne(1), 3);
        x.room(0, 2);
        Due.due("with YARD 0", x.overBy(), 4);
        x.room(0, 1);
        x.room(1, 2);
        Due.due("with YARD 1", x.overBy(), 3);
    }

    /** "of several the least" that is no LEDGE. */
    static void newOneOfSeveral() {
        NineLedges x = new NineLedges();
        x.goer(0, 10, 12, 0);
        Due.due("all are alike", x.newOne(0), 0);
        Due.due("OVER BY", x.newOne(1), 4);
        x.room(0, 2);
        x.room(1, 5);
        Due.due("the first that is no LEDGE", x.newOne(0), 2);
        x.minutes(4);
        Due.due("all are OVER", x.newOne(0), 2);
        Due.due("by 0", x.newOne(1), 0);
    }

    /** "with a ROOM of 2": where three had to be together it won't do. */
    static void newOneHasARoomOf2() {
        NineLedges x = new NineLedges();
        x.goer(10, 10, 20, 0);
        x.goer(10, 5, 20, 0);
        x.goer(10, 13, 0, 0);
        x.goer(10, 18, 0, 0);
        Due.due("no YARD", x.newOne(0), Due.NONE);
        x.room(11, 2);
        Due.due("a ROOM of 2", x.overBy(), Due.NONE);
        x.room(11, 3);
        Due.due("a ROOM of 3", x.overBy() > 0);
    }

    /** "FULL: there are 9 LEDGES": with eight a ninth may be thought of. */
    static void newOneBesideEight() {
        NineLedges x = new NineLedges();
        x.goer(30, 0, 1, 0);
        x.goer(30, 1, 0, 0);
        for (int yard = 10; yard < 18; yard++) {
            x.room(yard, 2);
        }
        Due.due("the ninth", x.newOne(0), 1);
        x.room(18, 2);
        Due.due("a tenth", x.newOne(0), Due.FULL);
        Due.due("a tenth", x.newOne(1), Due.FULL);
        x.room(10, 1);
        Due.due("the ninth again", x.newOne(1), 3);
    }

    // ---- AT FAULT, and that nothing changes

    /** Promise 22: bits 0 and 7 together, and none. */
    static void faultsAsBits() {
        NineLedges x = new NineLedges();
        x.goer(30, 3, 0, 0);
        x.goer(39, 2, 9, 0);
        for (int i = 0; i < 4; i++) {
            x.goer(0, 0, 1, 999);
        }
        x.goer(39, 12, 19, 0);
        x.goer(34, 13, 10, 0);
        Due.due("none", x.faults(), 0);
        x.overBy();
        x.then(2, 0, 5);
        Due.due("AHEAD isn't now", x.faults(), 0);
        x.minutes(2);
        Due.due("0 and 7", x.faults(), 129);
        x.home(0);
        Due.due("7", x.faults(), 128);
        x.home(7);
        Due.due("none", x.faults(), 0);
    }

    /** What would be changes nothing that is. */
    static void nothingChanges() {
        for (int act = 0; act < 8; act++) {
            NineLedges x = Scene.busy();
            NineLedges twin = Scene.busy();
            switch (act) {
                case 0: x.then(300, 6, 5); break;
                case 1: x.overBy(); break;
                case 2: x.stuckBy(); break;
                case 3: x.bestStart(6, 0); break;
                case 4: x.spare(6); break;
                case 5: x.without(3); break;
                case 6: x.newOne(0); break;
                default: x.faults(); break;
            }
            Twins.alike("act " + act, x, twin);
        }
    }
}
