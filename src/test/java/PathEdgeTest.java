/** The edges that the ERRORS, section 1 of the Terms and promises 1 to 9 name: each sentence has a test of its own. */
final class PathEdgeTest {
    private PathEdgeTest() {
    }

    public static void main(String[] args) throws Exception {
        Due.each(PathEdgeTest.class);
    }

    /** "LOW - 1 BEYOND, LOW - 2 NONE, LOW - 3 STATE, LOW - 4 FULL, LOW - 5 KIND." */
    static void errorsByNumber() {
        NineLedges x = new NineLedges();
        x.goer(0, 0, 1, 0);
        x.minutes(1);
        for (int i = 0; i < 20; i++) {
            x.tell(0);
        }
        Due.due("BEYOND", x.room(24, 1), -1000000001);
        Due.due("NONE", x.restore(), -1000000002);
        Due.due("STATE", x.start(0, 5), -1000000003);
        Due.due("FULL", x.tell(0), -1000000004);
        Due.due("KIND", x.as(0, 1), -1000000005);
        for (int k = 1; k <= 5; k++) {
            Due.due("told(" + k + ")", x.told(k), 1);
        }
    }

    /** "THE PATH has YARDS 0 to 23." */
    static void firstAndLastYard() {
        NineLedges x = new NineLedges();
        Due.due("room(0, 2)", x.room(0, 2), 1);
        Due.due("room(23, 3)", x.room(23, 3), 1);
        Due.due("ofYard(0, 0)", x.ofYard(0, 0), 2);
        Due.due("ofYard(23, 0)", x.ofYard(23, 0), 3);
        Due.due("no YARD between them", x.ofYard(1, 0) * x.ofYard(22, 0), 1);
        Due.due("room(-1, 2)", x.room(-1, 2), Due.BEYOND);
        Due.due("room(24, 2)", x.room(24, 2), Due.BEYOND);
        Due.due("ofYard(-1, 0)", x.ofYard(-1, 0), Due.BEYOND);
        Due.due("ofYard(24, 0)", x.ofYard(24, 0), Due.BEYOND);
    }

    /** "LEDGES are YARDS with a ROOM (2 to 5); all other YARDS have a ROOM of 1." */
    static void roomsOfLedges() {
        NineLedges x = new NineLedges();
        int was = 1;
        for (int v = 2; v <= 5; v++) {
            Due.due("room(7, " + v + ")", x.room(7, v), was);
            Due.due("a LEDGE", x.ofYard(7, 2), 0);
            Due.due("one LEDGE", x.count(1), 1);
            was = v;
        }
        Due.due("room(7, 6)", x.room(7, 6), Due.BEYOND);
        Due.due("room(7, 0)", x.room(7, 0), Due.BEYOND);
        Due.due("room(7, 1)", x.room(7, 1), 5);
        Due.due("no LEDGE", x.ofYard(7, 2), -1);
        Due.due("no LEDGE", x.count(1), 0);
        Due.due("room(7, 1) again", x.room(7, 1), 1);
    }

    /** "At first there are none." */
    static void atFirstNone() {
        NineLedges x = new NineLedges();
        Due.due("LEDGES", x.count(1), 0);
        for (int yard = 0; yard < 24; yard++) {
            Due.due("ROOM", x.ofYard(yard, 0), 1);
            Due.due("no LEDGE", x.ofYard(yard, 2), -1);
            Due.due("nobody", x.ofYard(yard, 1), 0);
        }
    }

    /** "Numbers of LEDGES: 0, 1, .. from YARD 0 on, as they are then." */
    static void numbersOfLedges() {
        NineLedges x = new NineLedges();
        x.room(23, 2);
        Due.due("alone", x.ofYard(23, 2), 0);
        x.room(0, 2);
        Due.due("one ahead of it", x.ofYard(23, 2), 1);
        Due.due("the first", x.ofYard(0, 2), 0);
        x.room(22, 5);
        x.room(1, 3);
        int[] want = {0, 1, 2, 3};
        int[] yards = {0, 1, 22, 23};
        for (int i = 0; i < 4; i++) {
            Due.due("LEDGE at " + yards[i], x.ofYard(yards[i], 2), want[i]);
        }
        x.room(0, 1);
        Due.due("the first is gone", x.ofYard(0, 2), -1);
        Due.due("the next is the first", x.ofYard(1, 2), 0);
        Due.due("the last", x.ofYard(23, 2), 2);
    }

    /** "9 at most": promise 2, "FULL: there would be a tenth LEDGE." */
    static void nineLedges() {
        NineLedges x = new NineLedges();
        for (int i = 0; i < 8; i++) {
            x.room(23 - i, 2);
        }
        Due.due("the ninth", x.room(0, 2), 1);
        Due.due("nine", x.count(1), 9);
        Due.due("its number", x.ofYard(23, 2), 8);
        Due.due("a tenth", x.room(1, 2), Due.FULL);
        Due.due("a tenth", x.room(15, 5), Due.FULL);
        Due.due("no LEDGE there", x.room(1, 1), 1);
        Due.due("a LEDGE with more ROOM is no tenth", x.room(0, 5), 2);
        Due.due("with less", x.room(0, 2), 5);
        Due.due("one is lost", x.room(23, 1), 2);
        Due.due("another takes its place", x.room(1, 3), 1);
        Due.due("nine again", x.count(1), 9);
        Due.due("a tenth again", x.room(23, 2), Due.FULL);
        Due.due("told", x.told(4), 3);
    }

    /** "STATE: more are at it than that." */
    static void asManyAsAreThere() {
        NineLedges x = new NineLedges();
        x.room(4, 5);
        for (int i = 0; i < 5; i++) {
            x.goer(0, 4, 9, 0);
        }
        x.minutes(1);
        Due.due("five", x.ofYard(4, 1), 5);
        for (int v = 1; v <= 4; v++) {
            Due.due("room(4, " + v + ")", x.room(4, v), Due.STATE);
        }
        Due.due("as many", x.room(4, 5), 5);
        x.minutes(1);
        Due.due("four", x.ofYard(4, 1), 4);
        Due.due("as many", x.room(4, 4), 5);
        Due.due("one less", x.room(4, 3), Due.STATE);
        Due.due("one is where there is ROOM for one", x.room(5, 1), 1);
        Due.due("that one may become a LEDGE", x.room(5, 2), 1);
        Due.due("and no LEDGE again", x.room(5, 1), 2);
        Due.due("told", x.told(3), 5);
    }

    /** Promise 3: "1 how many are at it": who is at HOME or OVER isn't. */
    static void howManyAreAtIt() {
        NineLedges x = new NineLedges();
        x.goer(0, 0, 1, 0);
        x.goer(0, 0, 1, 50);
        x.goer(0, 23, 22, 0);
        Due.due("at HOME", x.ofYard(0, 1), 0);
        x.minutes(1);
        Due.due("ON", x.ofYard(0, 1), 1);
        Due.due("ON", x.ofYard(23, 1), 1);
        x.minutes(1);
        Due.due("they went on", x.ofYard(0, 1) + x.ofYard(23, 1), 0);
        Due.due("at TO", x.ofYard(1, 1) + x.ofYard(22, 1), 2);
        x.minutes(1);
        Due.due("OVER", x.ofYard(1, 1) + x.ofYard(22, 1), 0);
    }

    /** "GOERS 0, 1, .. (at most 8)": promise 4, FULL. */
    static void eightGoers() {
        NineLedges x = new NineLedges();
        for (int i = 0; i < 8; i++) {
            Due.due("how many are there", x.count(0), i);
            Due.due("its number", x.goer(i, 0, 1, 0), i);
        }
        Due.due("a ninth", x.goer(0, 0, 1, 0), Due.FULL);
        x.minutes(20);
        Due.due("all are OVER", x.count(4), 8);
        Due.due("still a ninth", x.goer(0, 0, 1, 0), Due.FULL);
        Due.due("eight", x.count(0), 8);
        Due.due("told", x.told(4), 2);
        Due.due("the last", x.ofGoer(7, 1), 7);
        Due.due("no ninth", x.ofGoer(8, 1), Due.BEYOND);
    }

    /** "each FROM a YARD TO another one": promise 4, "BEYOND: also FROM and TO alike." */
    static void fromAndToAlike() {
        NineLedges x = new NineLedges();
        for (int yard = 0; yard < 24; yard++) {
            Due.due("alike", x.goer(0, yard, yard, 0), Due.BEYOND);
        }
        Due.due("nobody", x.count(0), 0);
        Due.due("the next one", x.goer(0, 0, 1, 0), 0);
        Due.due("the one ahead", x.goer(0, 1, 0, 0), 1);
        Due.due("from one end to the other", x.goer(0, 0, 23, 0), 2);
        Due.due("and back", x.goer(0, 23, 0, 0), 3);
        Due.due("told", x.told(1), 24);
    }

    /** "with a START (a MINUTE, 0 to 999)": promises 4 and 8. */
    static void starts() {
        NineLedges x = new NineLedges();
        Due.due("goer", x.goer(0, 0, 1, 0), 0);
        Due.due("goer", x.goer(0, 0, 1, 999), 1);
        Due.due("goer", x.goer(0, 0, 1, 1000), Due.BEYOND);
        Due.due("goer", x.goer(0, 0, 1, -1), Due.BEYOND);
        Due.due("START", x.ofGoer(0, 4), 0);
        Due.due("START", x.ofGoer(1, 4), 999);
        Due.due("start", x.start(0, 999), 0);
        Due.due("start", x.start(1, 0), 999);
        Due.due("start", x.start(0, 1000), Due.BEYOND);
        Due.due("start", x.start(0, -1), Due.BEYOND);
        Due.due("START", x.ofGoer(0, 4), 999);
        Due.due("START", x.ofGoer(1, 4), 0);
    }

    /** "of KINDS 0 .. 6; with a number m (0 to 9)": promise 4, "km: 10 times the KIND, and m". */
    static void kindsAndNumbers() {
        for (int km = 0; km < 70; km++) {
            NineLedges x = new NineLedges();
            Due.due("goer(" + km + ", ..)", x.goer(km, 3, 4, 5), 0);
            Due.due("KIND of " + km, x.ofGoer(0, 0), km / 10);
            Due.due("m of " + km, x.ofGoer(0, 1), km % 10);
            NineLedges y = new NineLedges();
            y.goer(69 - km, 3, 4, 5);
            Due.due("become(0, " + km + ")", y.become(0, km), (69 - km) / 10);
            for (int what = 0; what <= 14; what++) {
                Due.due("as if it had always been " + km, y.ofGoer(0, what), x.ofGoer(0, what));
            }
        }
    }

    private static void fact(String name, int kind, int what, int... byM) {
        for (int m = 0; m < 10; m++) {
            NineLedges x = new NineLedges();
            x.goer(10 * kind + m, 0, 1, 0);
            Due.due(name + " of KIND " + kind + " with m " + m, x.ofGoer(0, what), byM[m]);
        }
    }

    /** "LOAD: GOER: m. COFFIN: 20. GOAT: as GOER, less 3 (0 at least). WEDDING: as GOER, and 9. HERD .. BLIND .." */
    static void loads() {
        for (int what = 11; what <= 12; what++) {
            fact("LOAD", 0, what, 0, 1, 2, 3, 4, 5, 6, 7, 8, 9);
            fact("LOAD", 1, what, 20, 20, 20, 20, 20, 20, 20, 20, 20, 20);
            fact("LOAD", 2, what, 0, 0, 0, 0, 1, 2, 3, 4, 5, 6);
            fact("LOAD", 3, what, 9, 10, 11, 12, 13, 14, 15, 16, 17, 18);
            fact("LOAD", 4, what, 20, 20, 20, 20, 20, 20, 20, 20, 20, 20);
            fact("LOAD", 5, what, 0, 0, 0, 0, 2, 4, 6, 8, 10, 12);
            fact("LOAD", 6, what, 9, 9, 9, 9, 9, 9, 9, 9, 9, 9);
        }
    }

    /** "PACE: GOER: 1. COFFIN: 2. SLEEPING: as COFFIN, and 1. HERD: as GOAT, and m modulo 3." */
    static void paces() {
        for (int kind : new int[] {0, 2, 3, 6}) {
            fact("PACE", kind, 10, 1, 1, 1, 1, 1, 1, 1, 1, 1, 1);
        }
        fact("PACE", 1, 10, 2, 2, 2, 2, 2, 2, 2, 2, 2, 2);
        fact("PACE", 4, 10, 3, 3, 3, 3, 3, 3, 3, 3, 3, 3);
        fact("PACE", 5, 10, 1, 2, 3, 1, 2, 3, 1, 2, 3, 1);
    }

    /** "Whether it CAN BACK: a GOER can; a COFFIN can't; a WEDDING, if m is odd." */
    static void whoCanBack() {
        for (int kind : new int[] {0, 2, 5}) {
            fact("CAN BACK", kind, 13, 1, 1, 1, 1, 1, 1, 1, 1, 1, 1);
        }
        for (int kind : new int[] {1, 4}) {
            fact("CAN BACK", kind, 13, 0, 0, 0, 0, 0, 0, 0, 0, 0, 0);
        }
        for (int kind : new int[] {3, 6}) {
            fact("CAN BACK", kind, 13, 0, 1, 0, 1, 0, 1, 0, 1, 0, 1);
        }
    }

    /** "Whether it HEARS: a GOER does; SLEEPING, BLIND don't." */
    static void whoHears() {
        for (int kind = 0; kind < 7; kind++) {
            int hears = kind == 4 || kind == 6 ? 0 : 1;
            fact("HEARS", kind, 14, hears, hears, hears, hears, hears, hears, hears, hears, hears, hears);
        }
    }

    /** Promise 5: "6 its YARD (-1: not ON)". */
    static void yardOfOneThatIsNotOn() {
        NineLedges x = new NineLedges();
        x.goer(0, 0, 1, 2);
        x.goer(0, 1, 0, 20);
        Due.due("at HOME", x.ofGoer(0, 6), -1);
        x.minutes(2);
        Due.due("at YARD 0", x.ofGoer(0, 6), 0);
        x.minutes(2);
        Due.due("OVER", x.ofGoer(0, 5), 2);
        Due.due("OVER", x.ofGoer(0, 6), -1);
        Due.due("no WAIT, and it doesn't BACK", x.ofGoer(0, 7) + x.ofGoer(0, 8), 0);
        x.home(0);
        Due.due("at HOME again", x.ofGoer(0, 6), -1);
    }

    /** "9 TIMES": they stay with one that is OVER. */
    static void timesOfOneThatIsOver() {
        NineLedges x = new NineLedges();
        x.room(2, 2);
        x.goer(1, 3, 6, 0);
        x.goer(5, 4, 0, 0);
        x.minutes(2);
        Due.due("it BACKS", x.ofGoer(0, 8), 1);
        x.minutes(12);
        Due.due("both are OVER", x.count(4), 2);
        Due.due("TIMES", x.ofGoer(0, 9), 1);
        Due.due("TIMES of the other", x.ofGoer(1, 9), 0);
        x.home(0);
        Due.due("TIMES of a new one", x.ofGoer(0, 9), 0);
        Due.due("BACKS stay", x.count(6), 1);
    }

    /** Promise 6: only KIND and m become others, wherever it is. */
    static void becomeKeepsTheRest() {
        NineLedges x = new NineLedges();
        x.goer(10, 3, 0, 0);
        x.goer(10, 2, 9, 7);
        x.minutes(2);
        int[] before = new int[15];
        for (int what = 2; what <= 9; what++) {
            before[what] = x.ofGoer(0, what);
        }
        Due.due("WAIT", before[7], 1);
        Due.due("become", x.become(0, 0), 1);
        for (int what = 2; what <= 9; what++) {
            Due.due("what " + what, x.ofGoer(0, what), before[what]);
        }
        x.minutes(1);
        Due.due("WAIT that was begun goes on", x.ofGoer(0, 6), 2);
        x.minutes(1);
        Due.due("by the new PACE", x.ofGoer(0, 6) * 10 + x.ofGoer(0, 7), 10);
        x.minutes(2);
        Due.due("OVER", x.ofGoer(0, 5), 2);
        Due.due("become of one that is OVER", x.become(0, 69), 0);
        Due.due("still OVER", x.ofGoer(0, 5), 2);
        Due.due("become of one at HOME", x.become(1, 20), 1);
        Due.due("still at HOME", x.ofGoer(1, 5), 0);
        Due.due("START", x.ofGoer(1, 4), 7);
    }

    /** Promise 7: "KIND: it isn't of that KIND, nor of one under it." */
    static void asEachKind() {
        // rows: a KIND; columns: as what it can be taken
        String[] under = {"1000000", "1100000", "1010000", "1001000", "1100100", "1010010", "1001001"};
        for (int kind = 0; kind < 7; kind++) {
            NineLedges x = new NineLedges();
            x.goer(10 * kind + 8, 0, 1, 0);
            int refused = 0;
            for (int as = 0; as < 7; as++) {
                boolean is = under[kind].charAt(as) == '1';
                refused += is ? 0 : 1;
                Due.due("KIND " + kind + " as " + as, x.as(0, as), is ? 8 : Due.KIND);
            }
            Due.due("told", x.told(5), refused);
            Due.due("as 7", x.as(0, 7), Due.BEYOND);
            Due.due("as -1", x.as(0, -1), Due.BEYOND);
            x.become(0, 10 * kind);
            Due.due("m 0", x.as(0, kind), 0);
        }
    }

    /** Promise 8: "STATE: it isn't at HOME." */
    static void startAtHomeAlone() {
        NineLedges x = new NineLedges();
        x.goer(0, 0, 1, 1);
        Due.due("at HOME", x.start(0, 2), 1);
        x.minutes(2);
        Due.due("ON", x.start(0, 3), Due.STATE);
        x.minutes(2);
        Due.due("OVER", x.start(0, 3), Due.STATE);
        Due.due("START", x.ofGoer(0, 4), 2);
        x.home(0);
        Due.due("at HOME again", x.start(0, 3), 2);
        Due.due("START", x.ofGoer(0, 4), 3);
        Due.due("told", x.told(3), 2);
    }

    /** Promise 9: "A GOER is at HOME again (as a new one; TIMES 0, not AT FAULT): how it was." */
    static void homeAsANewOne() {
        NineLedges x = new NineLedges();
        x.goer(17, 3, 0, 0);
        x.goer(14, 0, 3, 0);
        x.minutes(4);
        Due.due("AT FAULT", x.faults(), 2);
        Due.due("WAIT", x.ofGoer(0, 7), 0);
        Due.due("home of one that is ON", x.home(1), 1);
        Due.due("home of one at HOME", x.home(1), 0);
        Due.due("not AT FAULT", x.faults(), 0);
        int[] fresh = {1, 4, 0, 3, 0, 0, -1, 0, 0, 0, 2, 20, 20, 0, 1};
        for (int what = 0; what < fresh.length; what++) {
            Due.due("what " + what, x.ofGoer(1, what), fresh[what]);
        }
        Due.due("the YARD is FREE", x.ofYard(1, 1), 0);
        Due.due("MINUTE stays", x.count(2), 4);
        x.minutes(1);
        Due.due("it goes ON again", x.ofGoer(1, 6), 0);
        x.home(1);
        x.start(1, 900);
        Due.due("the other is OVER", x.minutes(20), 1);
        Due.due("home of one that is OVER", x.home(0), 2);
        Due.due("nobody is OVER", x.count(4), 0);
        x.minutes(1);
        Due.due("it goes ON again", x.ofGoer(0, 6), 3);
    }

    /** The same while it WAITS and while it BACKS. */
    static void homeFromWaitAndBack() {
        NineLedges x = new NineLedges();
        x.goer(40, 9, 0, 0);
        x.goer(1, 3, 9, 0);
        x.goer(5, 4, 0, 0);
        x.minutes(2);
        Due.due("WAIT", x.ofGoer(0, 7), 2);
        Due.due("BACKS", x.ofGoer(1, 8), 1);
        x.home(0);
        x.home(1);
        Due.due("no WAIT", x.ofGoer(0, 7), 0);
        Due.due("it doesn't BACK", x.ofGoer(1, 8), 0);
        Due.due("TIMES", x.ofGoer(1, 9), 0);
        Due.due("BACKS stay", x.count(6), 1);
        x.minutes(1);
        Due.due("ON at FROM", x.ofGoer(0, 6), 9);
        Due.due("no WAIT", x.ofGoer(0, 7), 0);
    }

    /** A GOER made where restore() took one away is as new as any. */
    static void aNewOneBehindRestore() {
        NineLedges x = new NineLedges();
        x.image();
        x.goer(1, 3, 9, 0);
        x.goer(5, 4, 0, 0);
        x.goer(12, 10, 14, 0);
        x.goer(14, 11, 9, 0);
        x.minutes(2);
        Due.due("one BACKS", x.ofGoer(0, 8), 1);
        Due.due("one is AT FAULT", x.faults(), 8);
        Due.due("restore", x.restore(), 0);
        for (int i = 0; i < 4; i++) {
            Due.due("goer", x.goer(63, 20, 21, 5), i);
            int[] fresh = {6, 3, 20, 21, 5, 0, -1, 0, 0, 0, 1, 9, 9, 1, 0};
            for (int what = 0; what < fresh.length; what++) {
                Due.due("GOER " + i + " what " + what, x.ofGoer(i, what), fresh[what]);
            }
        }
        Due.due("nobody is AT FAULT", x.faults(), 0);
        Due.due("nobody is there", x.ofYard(3, 1) + x.ofYard(4, 1) + x.ofYard(10, 1) + x.ofYard(11, 1), 0);
    }
}
