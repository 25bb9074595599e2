/** The edges that a MINUTE has (section 1 of the Terms), and those of AHEAD, draws, promises 13 to 15 and 22. */
final class MinuteEdgeTest {
    private MinuteEdgeTest() {
    }

    public static void main(String[] args) throws Exception {
        Due.each(MinuteEdgeTest.class);
    }

    private static NineLedges with(int... ledges) {
        NineLedges x = new NineLedges();
        for (int yard : ledges) {
            x.room(yard, 2);
        }
        return x;
    }

    private static void at(NineLedges x, int... yards) {
        for (int i = 0; i < yards.length; i++) {
            Due.due("YARD of GOER " + i + " in MINUTE " + x.count(2), x.ofGoer(i, 6), yards[i]);
        }
    }

    private static void backs(NineLedges x, int... backs) {
        for (int i = 0; i < backs.length; i++) {
            Due.due("GOER " + i + " BACKS in MINUTE " + x.count(2), x.ofGoer(i, 8), backs[i]);
        }
    }

    // ---- MINUTE

    /** Promise 13: "n (1 to 300) MINUTES". */
    static void oneTo300() {
        NineLedges x = new NineLedges();
        Due.due("0", x.minutes(0), Due.BEYOND);
        Due.due("301", x.minutes(301), Due.BEYOND);
        Due.due("MINUTE", x.count(2), 0);
        Due.due("1", x.minutes(1), 0);
        Due.due("MINUTE", x.count(2), 1);
        Due.due("300", x.minutes(300), 0);
        Due.due("MINUTE", x.count(2), 301);
        Due.due("loose 0", x.loose(0), Due.BEYOND);
        Due.due("loose 301", x.loose(301), Due.BEYOND);
        Due.due("MINUTE", x.count(2), 301);
        Due.due("loose 1", x.loose(1), 0);
        Due.due("MINUTE", x.count(2), 302);
        Due.due("loose 300", x.loose(300), 0);
        Due.due("MINUTE", x.count(2), 602);
    }

    private static NineLedges at9900() {
        NineLedges x = new NineLedges();
        for (int i = 0; i < 33; i++) {
            x.minutes(300);
        }
        return x;
    }

    /** "MINUTE (0 to 9999)": "STATE: MINUTE would be above 9999." */
    static void lastMinute() {
        NineLedges x = at9900();
        Due.due("100", x.minutes(100), Due.STATE);
        Due.due("99", x.minutes(99), 0);
        Due.due("MINUTE", x.count(2), 9999);
        Due.due("1", x.minutes(1), Due.STATE);
        Due.due("300", x.minutes(300), Due.STATE);
        Due.due("301", x.minutes(301), Due.BEYOND);
        Due.due("0", x.minutes(0), Due.BEYOND);
        Due.due("MINUTE", x.count(2), 9999);
        Due.due("told", x.told(3) * 10 + x.told(1), 32);
    }

    /** Promise 14: "likewise", and what is refused draws nothing. */
    static void lastMinuteByDraws() {
        NineLedges x = at9900();
        x.seed(5);
        Due.due("100", x.loose(100), Due.STATE);
        Due.due("z", x.count(10), 5);
        Due.due("99", x.loose(99), 0);
        Due.due("MINUTE", x.count(2), 9999);
        int z = x.count(10);
        Due.due("it was drawn", z != 5);
        Due.due("1", x.loose(1), Due.STATE);
        Due.due("301", x.loose(301), Due.BEYOND);
        Due.due("z", x.count(10), z);
    }

    /** Both answer how many are OVER, neither more nor less. */
    static void howManyAreOver() {
        for (int way = 0; way < 2; way++) {
            NineLedges x = new NineLedges();
            x.goer(0, 0, 1, 0);
            x.goer(0, 5, 6, 1);
            x.goer(0, 10, 12, 1);
            x.goer(0, 15, 16, 900);
            int[] over = {0, 0, 2, 3, 3};
            for (int i = 0; i < over.length; i++) {
                Due.due("OVER in MINUTE " + (i + 1), way == 0 ? x.minutes(1) : x.loose(1), over[i]);
            }
        }
    }

    // ---- at HOME

    /** "START is MINUTE or less". */
    static void startIsMinuteOrLess() {
        NineLedges x = new NineLedges();
        x.goer(0, 0, 1, 0);
        x.goer(0, 5, 9, 1);
        x.goer(0, 10, 14, 2);
        x.goer(0, 15, 19, 999);
        at(x, -1, -1, -1, -1);
        x.minutes(1);
        at(x, 0, 5, -1, -1);
        x.minutes(1);
        at(x, 1, 6, 10, -1);
        for (int i = 0; i < 3; i++) {
            x.minutes(300);
        }
        x.minutes(96);
        Due.due("MINUTE", x.count(2), 998);
        Due.due("at HOME", x.ofGoer(3, 5), 0);
        x.minutes(1);
        Due.due("ON", x.ofGoer(3, 6), 15);
    }

    /** A START that is long over is no hindrance. */
    static void startIsLess() {
        NineLedges x = at9900();
        x.goer(0, 3, 4, 0);
        x.minutes(1);
        at(x, 3);
    }

    /** "and FROM is FREE": "A YARD is FREE, if fewer are at it than its ROOM." */
    static void fromIsFree() {
        for (int room = 1; room <= 5; room++) {
            NineLedges x = new NineLedges();
            x.room(8, room);
            for (int i = 0; i < 7; i++) {
                x.goer(0, 8, 20, 0);
            }
            x.minutes(1);
            Due.due("as many as ROOM", x.ofYard(8, 1), room);
            Due.due("ON", x.count(3), room);
            for (int i = 0; i < 7; i++) {
                Due.due("by numbers", x.ofGoer(i, 6), i < room ? 8 : -1);
            }
            x.minutes(1);
            Due.due("one went, one came", x.ofYard(8, 1), room);
            Due.due("ON", x.count(3), room + 1);
        }
    }

    /** "GOER by GOER by numbers": who left FROM ahead of it makes it FREE in the same MINUTE, who leaves later doesn't. */
    static void byNumbers() {
        NineLedges x = new NineLedges();
        x.goer(0, 4, 9, 1);
        x.goer(0, 4, 9, 1);
        x.minutes(1);
        at(x, 4, -1);
        x.minutes(1);
        at(x, 5, 4);
        NineLedges y = new NineLedges();
        y.goer(0, 4, 9, 2);
        y.goer(0, 4, 9, 1);
        y.minutes(1);
        at(y, -1, 4);
        y.minutes(1);
        at(y, -1, 5);
        y.minutes(1);
        at(y, 4, 6);
    }

    /** "it is ON, there (WAIT is 0; it doesn't BACK)": nothing more in that MINUTE, and no TOLL. */
    static void onThere() {
        NineLedges x = with(4);
        x.goer(49, 4, 9, 0);
        x.minutes(1);
        at(x, 4);
        Due.due("ON", x.ofGoer(0, 5), 1);
        Due.due("WAIT", x.ofGoer(0, 7), 0);
        Due.due("it doesn't BACK", x.ofGoer(0, 8), 0);
        Due.due("no TOLL", x.count(5), 0);
        x.minutes(1);
        at(x, 5);
        Due.due("PACE 3", x.ofGoer(0, 7), 2);
    }

    // ---- ON

    /** "if WAIT is above 0: WAIT is 1 less": "WAIT is PACE less 1". */
    static void waits() {
        int[] kinds = {0, 10, 40, 50, 51, 52, 53};
        int[] paces = {1, 2, 3, 1, 2, 3, 1};
        for (int k = 0; k < kinds.length; k++) {
            NineLedges x = new NineLedges();
            x.goer(kinds[k], 0, 2, 0);
            x.minutes(1);
            for (int yard = 1; yard <= 2; yard++) {
                for (int wait = paces[k] - 1; wait >= 0; wait--) {
                    Due.due("nobody is OVER", x.minutes(1), 0);
                    at(x, yard);
                    Due.due("WAIT", x.ofGoer(0, 7), wait);
                }
            }
            Due.due("OVER", x.minutes(1), 1);
            Due.due("MINUTE", x.count(2), 2 + 2 * paces[k]);
        }
    }

    /** "Else if it is at TO, and doesn't BACK: it is OVER": a MINUTE behind, also at the ends of THE PATH. */
    static void atTo() {
        int[][] ways = {{1, 0}, {22, 23}, {0, 1}, {23, 22}};
        for (int[] way : ways) {
            NineLedges x = new NineLedges();
            x.goer(0, way[0], way[1], 0);
            x.minutes(2);
            at(x, way[1]);
            Due.due("ON", x.ofGoer(0, 5), 1);
            Due.due("OVER", x.minutes(1), 1);
            Due.due("OVER", x.ofGoer(0, 5), 2);
        }
    }

    /** Who is at TO is OVER, whoever it hears there. */
    static void atToItNeedNotHear() {
        NineLedges x = with(5);
        x.goer(3, 4, 5, 0);
        x.goer(10, 8, 0, 0);
        x.minutes(2);
        at(x, 5, 7);
        Due.due("TOLL at TO", x.count(5), 3);
        Due.due("OVER", x.minutes(1), 1);
    }

    private static int isHeard(int km, int from, int to, int otherFrom, int otherTo, int... ledges) {
        NineLedges x = with(ledges);
        x.goer(km, from, to, 0);
        x.goer(10, otherFrom, otherTo, 0);
        x.minutes(2);
        return x.ofGoer(0, 6) == from ? 1 : 0;
    }

    /** "up to the next LEDGE in its way (that one not counted ..)". */
    static void upToTheNextLedge() {
        for (int yard = 7; yard <= 14; yard++) {
            Due.due("up, one at " + yard, isHeard(0, 5, 20, yard, 0, 5, 12), yard < 12 ? 1 : 0);
            Due.due("down, one at " + (23 - yard), isHeard(0, 18, 3, 23 - yard, 23, 18, 11), yard < 12 ? 1 : 0);
        }
    }

    /** "to the end of THE PATH, if there is none". */
    static void upToTheEnd() {
        for (int yard = 7; yard <= 23; yard++) {
            Due.due("up, one at " + yard, isHeard(0, 5, 20, yard, 0, 5), 1);
            Due.due("down, one at " + (23 - yard), isHeard(0, 18, 3, 23 - yard, 23, 18), 1);
        }
        Due.due("a LEDGE at the end", isHeard(0, 5, 20, 23, 0, 5, 23), 0);
        Due.due("a LEDGE at the end", isHeard(0, 18, 3, 0, 23, 18, 0), 0);
        Due.due("one ahead of it", isHeard(0, 5, 20, 22, 0, 5, 23), 1);
        Due.due("one ahead of it", isHeard(0, 18, 3, 1, 23, 18, 0), 1);
        Due.due("a LEDGE at once", isHeard(0, 5, 20, 9, 0, 5, 6), 0);
        Due.due("from one end to the other", isHeard(0, 0, 23, 23, 0, 0), 1);
        Due.due("and back", isHeard(0, 23, 0, 0, 23, 23), 1);
    }

    /** Who goes the same way, is behind its back, or beside it isn't heard. */
    static void onlyWhoFacesAgainstItAhead() {
        Due.due("the same way", isHeard(0, 5, 20, 7, 20, 5), 0);
        Due.due("the same way", isHeard(0, 18, 3, 16, 3, 18), 0);
        for (int yard = 0; yard < 5; yard++) {
            Due.due("behind its back", isHeard(0, 5, 20, yard, yard == 0 ? 1 : 0, 5), 0);
        }
        Due.due("beside it", isHeard(0, 5, 20, 5, 0, 5), 0);
        Due.due("away", isHeard(0, 5, 20, 8, 23, 5), 0);
        Due.due("still, though it is at TO next", isHeard(0, 5, 20, 8, 7, 5), 1);
    }

    /** Nobody is heard who is at HOME, or OVER. */
    static void onlyWhoIsOn() {
        NineLedges x = with(5);
        x.goer(0, 5, 20, 3);
        x.goer(0, 9, 8, 0);
        x.goer(0, 9, 0, 5);
        x.minutes(3);
        Due.due("one is OVER", x.count(4), 1);
        at(x, 5, -1, -1);
        x.minutes(1);
        at(x, 6, -1, -1);
    }

    /** "if it stands at a LEDGE": elsewhere it doesn't wait. */
    static void atALedgeAlone() {
        Due.due("no LEDGE", isHeard(0, 5, 20, 9, 0), 0);
        Due.due("no LEDGE, but one ahead", isHeard(0, 5, 20, 9, 0, 12), 0);
        Due.due("a LEDGE", isHeard(0, 5, 20, 9, 0, 5), 1);
    }

    /** "HEARS": each KIND. */
    static void eachKindHearsOrNot() {
        for (int kind = 0; kind < 7; kind++) {
            for (int m = 0; m < 10; m += 3) {
                boolean hears = kind != 4 && kind != 6;
                Due.due("KIND " + kind, isHeard(10 * kind + m, 5, 20, 9, 0, 5), hears ? 1 : 0);
            }
        }
    }

    /** "somebody is who faces against it and doesn't BACK": one that BACKS isn't heard. */
    static void whoBacksIsNotHeard() {
        NineLedges x = with(5);
        x.goer(0, 5, 20, 3);
        x.goer(1, 10, 0, 0);
        x.goer(5, 9, 23, 0);
        x.minutes(2);
        backs(x, 0, 1, 0);
        x.minutes(1);
        at(x, 5, 11, 10);
        x.minutes(1);
        at(x, 6, 12, 11);
        NineLedges y = with(5);
        y.goer(0, 5, 20, 3);
        y.goer(9, 10, 0, 0);
        y.goer(5, 9, 23, 0);
        y.minutes(4);
        backs(y, 0, 0, 1);
        Due.due("this one is", y.ofGoer(0, 6), 5);
    }

    /** "doesn't BACK": one that BACKS where a LEDGE came to be neither hears nor stays. */
    static void whoBacksDoesNotHear() {
        NineLedges x = new NineLedges();
        x.goer(1, 8, 20, 0);
        x.goer(5, 9, 0, 0);
        x.minutes(2);
        backs(x, 1, 0);
        x.room(8, 2);
        x.minutes(1);
        at(x, 7, 8);
        backs(x, 1, 0);
    }

    /** "if there is no such YARD, it waits": it BACKS as far as 0 or 23. */
    static void noSuchYard() {
        NineLedges x = new NineLedges();
        x.goer(1, 2, 9, 0);
        x.goer(5, 3, 0, 0);
        NineLedges y = new NineLedges();
        y.goer(1, 21, 9, 0);
        y.goer(5, 20, 23, 0);
        x.minutes(2);
        y.minutes(2);
        for (int i = 1; i <= 2; i++) {
            x.minutes(1);
            y.minutes(1);
            at(x, 2 - i, 3 - i);
            at(y, 21 + i, 20 + i);
        }
        for (int i = 0; i < 5; i++) {
            x.minutes(1);
            y.minutes(1);
            at(x, 0, 1);
            at(y, 23, 22);
            backs(x, 1, 0);
            backs(y, 1, 0);
        }
        Due.due("once", x.count(6) + y.count(6), 2);
        Due.due("no WAIT", x.ofGoer(0, 7), 0);
    }

    /** "at a LEDGE TAKINGS are more by TOLL": at each that it comes to, by its LOAD, its number and the MINUTE. */
    static void tollAtEachLedge() {
        NineLedges x = with(1, 2, 4);
        Due.text(x, 1, "l*10+k*3+t");
        x.goer(2, 0, 5, 0);
        int[] takings = {0, 22, 48, 48, 79, 79, 79};
        for (int i = 0; i < takings.length; i++) {
            x.minutes(1);
            Due.due("TAKINGS in MINUTE " + (i + 1), x.count(5), takings[i]);
        }
    }

    /** "held within -99 to 99" each time, and "TAKINGS (.. held within -99999 to 99999)". */
    static void mostTakings() {
        for (int sign = -1; sign <= 1; sign += 2) {
            NineLedges x = new NineLedges();
            for (int yard = 1; yard < 10; yard++) {
                x.room(yard, 5);
            }
            Due.text(x, 1, sign < 0 ? "0-1000" : "1000");
            for (int i = 0; i < 8; i++) {
                x.goer(0, 0, 10, 0);
            }
            int paid = 0;
            for (int round = 0; round < 14; round++) {
                Due.due("all are OVER", x.minutes(30), 8);
                paid += 8 * 9 * 99;
                Due.due("TAKINGS", x.count(5), sign * paid);
                for (int i = 0; i < 8; i++) {
                    x.home(i);
                }
            }
            Due.due("nearly", paid, 99792);
            tillTheyAreHeld(x, sign);
        }
    }

    /** 207 are left to the most: 99, 99, 9, and then nothing; what comes back counts from the most on. */
    private static void tillTheyAreHeld(NineLedges x, int sign) {
        for (int i = 1; i < 8; i++) {
            x.start(i, 999);
        }
        int[] more = {0, 99, 198, 207, 207, 207};
        for (int i = 0; i < more.length; i++) {
            x.minutes(1);
            Due.due("TAKINGS", x.count(5), sign * (99792 + more[i]));
        }
        Due.text(x, 1, sign < 0 ? "7" : "0-7");
        x.minutes(1);
        Due.due("back from the most", x.count(5), sign * 99992);
        Due.text(x, 1, sign < 0 ? "0-8" : "8");
        x.minutes(1);
        Due.due("to the most again", x.count(5), sign * 99999);
    }

    /** "and it doesn't BACK any more": at a LEDGE alone. */
    static void backEndsAtALedge() {
        NineLedges x = with(1);
        x.goer(1, 4, 9, 0);
        x.goer(5, 5, 0, 0);
        x.minutes(2);
        int[][] rows = {{3, 4, 1}, {2, 3, 1}, {1, 2, 0}, {1, 1, 0}};
        for (int[] row : rows) {
            x.minutes(1);
            at(x, row[0], row[1]);
            backs(x, row[2], 0);
        }
        Due.due("TOLL of both", x.count(5), 6);
        x.minutes(1);
        at(x, 2, 0);
    }

    /** Going back has the PACE of going on. */
    static void paceOfOneThatBacks() {
        NineLedges x = with(2);
        x.goer(52, 4, 9, 0);
        x.goer(15, 5, 0, 0);
        x.minutes(2);
        backs(x, 1, 0);
        int[][] rows = {{3, 2}, {3, 1}, {3, 0}, {2, 2}, {2, 1}, {2, 0}};
        for (int i = 0; i < rows.length; i++) {
            x.minutes(1);
            Due.due("YARD", x.ofGoer(0, 6), rows[i][0]);
            Due.due("WAIT", x.ofGoer(0, 7), rows[i][1]);
            Due.due("BACKS", x.ofGoer(0, 8), i < 3 ? 1 : 0);
        }
    }

    /** A LEDGE is FREE while fewer are at it than its ROOM: one more may come or set out there, and no more. */
    static void aLedgeIsFull() {
        for (int room = 2; room <= 5; room++) {
            NineLedges x = new NineLedges();
            x.room(6, room);
            x.goer(0, 5, 20, 2);
            for (int i = 1; i < room; i++) {
                x.goer(0, 6, 7, 0);
            }
            x.goer(0, 6, 7, 4);
            x.goer(0, 5, 20, 4);
            x.goer(10, 12, 0, 0);
            x.minutes(2);
            Due.due("one less than ROOM, who hear the COFFIN", x.ofYard(6, 1), room - 1);
            x.minutes(1);
            Due.due("one comes", x.ofGoer(0, 6), 6);
            Due.due("full", x.ofYard(6, 1), room);
            x.minutes(2);
            Due.due("the last there stays at HOME", x.ofGoer(room, 5), 0);
            Due.due("and the next waits", x.ofGoer(room + 1, 6), 5);
            Due.due("full", x.ofYard(6, 1), room);
        }
    }

    // ---- meetings

    /** GOER 0 of RANK r comes up to GOER 1 of RANK s: whether each BACKS behind the meeting. */
    private static void meet(String law, int m, int n, int back0, int back1) {
        NineLedges x = new NineLedges();
        Due.text(x, 0, law);
        x.goer(m, 8, 20, 0);
        x.goer(n, 9, 2, 0);
        x.minutes(1);
        backs(x, 0, 0);
        x.minutes(1);
        Due.due(law + " of " + m + " and " + n + ": 0 BACKS", x.ofGoer(0, 8), back0);
        Due.due(law + " of " + m + " and " + n + ": 1 BACKS", x.ofGoer(1, 8), back1);
        Due.due("BACKS", x.count(6), 1);
        Due.due("TIMES", x.ofGoer(0, 9) * 10 + x.ofGoer(1, 9), back0 * 10 + back1);
        at(x, 8, 9);
    }

    /** "if its RANK is less than that one's, or the same and its number greater". */
    static void byRankAndNumber() {
        meet("l", 4, 5, 1, 0);
        meet("l", 5, 4, 0, 1);
        meet("l", 5, 5, 0, 1);
        meet("0-l", 4, 5, 0, 1);
        meet("0-l", 5, 4, 1, 0);
        meet("7", 4, 5, 0, 1);
        meet("n", 5, 4, 1, 0);
        meet("0-n", 4, 5, 0, 1);
        meet("l*9999*9999*11", 1, 2, 0, 1);
        meet("l*9999*9999*11", 2, 1, 1, 0);
    }

    /** A RANK that wraps is compared as the int that it is: 1099780011 and 2199560022 - 2^32. */
    static void ranksThatWrap() {
        NineLedges x = new NineLedges();
        Due.text(x, 0, "l*9999*9999*11");
        Due.due("once", x.law(0, 1, 0, 0), 1099780011);
        Due.due("twice", x.law(0, 2, 0, 0), -2095407274);
        x.goer(2, 0, 1, 0);
        Due.due("RANK is no ERROR", x.ofGoer(0, 12), -2095407274);
        Due.due("told", Due.errors(x), 0);
    }

    /** Who waits at the meeting doesn't change at all. */
    static void whoNeedNotBackWaits() {
        NineLedges x = new NineLedges();
        x.goer(15, 8, 20, 0);
        x.goer(15, 9, 2, 0);
        x.minutes(9);
        at(x, 8, 9);
        backs(x, 0, 0);
        Due.due("the greater number is AT FAULT, the less isn't", x.faults(), 2);
        Due.due("BACKS", x.count(6), 0);
        Due.due("TIMES", x.ofGoer(0, 9) + x.ofGoer(1, 9), 0);
        Due.due("WAIT", x.ofGoer(0, 7) + x.ofGoer(1, 7), 0);
    }

    /** "(of several the least number)". */
    static void ofSeveralTheLeastNumber() {
        int[][] rows = {{3, 5, 1, 1}, {3, 1, 5, 0}, {3, 3, 9, 0}, {3, 4, 0, 1}};
        for (int[] row : rows) {
            NineLedges x = with(6);
            x.goer(row[0], 5, 20, 0);
            x.goer(row[1], 6, 0, 0);
            x.goer(row[2], 6, 0, 0);
            x.minutes(2);
            Due.due("0 BACKS", x.ofGoer(0, 8), row[3]);
            backs(x, row[3], 0, 0);
        }
    }

    /** Of those at that YARD only who faces against it is met. */
    static void whoGoesTheSameWayIsNotMet() {
        NineLedges x = with(6);
        x.goer(3, 5, 20, 0);
        x.goer(1, 6, 20, 0);
        x.goer(5, 6, 0, 0);
        x.minutes(2);
        backs(x, 1, 0, 0);
        NineLedges y = with(6);
        y.goer(3, 5, 20, 0);
        y.goer(9, 6, 20, 0);
        y.goer(1, 6, 0, 0);
        y.minutes(2);
        backs(y, 0, 0, 0);
        NineLedges z = new NineLedges();
        z.goer(3, 5, 20, 0);
        z.goer(19, 6, 20, 0);
        z.minutes(2);
        backs(z, 0, 0);
        Due.due("nobody is AT FAULT", z.faults(), 0);
    }

    /** Nor is one that BACKS: GOER 0 would be AT FAULT by its RANK. */
    static void whoBacksIsNotMet() {
        NineLedges x = new NineLedges();
        Due.text(x, 0, "l+b*50");
        x.goer(10, 5, 20, 0);
        x.goer(5, 6, 0, 0);
        x.minutes(2);
        backs(x, 0, 1);
        Due.due("RANKS", x.ofGoer(0, 12) * 100 + x.ofGoer(1, 12), 2055);
        x.minutes(1);
        Due.due("nobody is AT FAULT", x.faults(), 0);
        at(x, 5, 7);
    }

    /** "nor stands at a LEDGE": there nobody gives way, whether it hears or not, and nobody is AT FAULT. */
    static void atALedgeNobodyGivesWay() {
        for (int km : new int[] {9, 27, 60, 63, 35}) {
            NineLedges x = with(5);
            x.goer(km, 5, 20, 0);
            x.goer(10, 6, 0, 0);
            x.goer(0, 5, 20, 0);
            Due.due("its RANK is less", x.ofGoer(0, 12) < x.ofGoer(1, 12));
            for (int i = 0; i < 9; i++) {
                x.minutes(1);
                at(x, 5, 6, 5);
                backs(x, 0, 0, 0);
                Due.due("nobody is AT FAULT", x.faults(), 0);
            }
        }
    }

    /** Where there is no LEDGE any more, it does. */
    static void whereTheLedgeIsLost() {
        NineLedges x = with(5);
        x.goer(9, 5, 20, 0);
        x.goer(10, 6, 0, 0);
        x.goer(0, 5, 20, 0);
        x.minutes(3);
        x.home(2);
        x.start(2, 999);
        Due.due("one is at it", x.room(5, 1), 2);
        x.minutes(1);
        backs(x, 1, 0);
        at(x, 5, 6);
    }

    /** "it BACKS from then on, if it CAN BACK .. else it is AT FAULT": each KIND and m. */
    static void canBackOrAtFault() {
        for (int km = 0; km < 70; km++) {
            NineLedges x = new NineLedges();
            Due.text(x, 0, "0-n");
            x.goer(0, 8, 20, 0);
            x.goer(km, 9, 2, 0);
            x.minutes(2);
            int can = x.ofGoer(1, 13);
            Due.due(km + " BACKS", x.ofGoer(1, 8), can);
            Due.due(km + " TIMES", x.ofGoer(1, 9), can);
            Due.due(km + " BACKS in all", x.count(6), can);
            Due.due(km + " AT FAULT", x.faults(), 2 - 2 * can);
            at(x, 8, 9);
        }
    }

    /** "BACKS is 1 more" as it begins, not each MINUTE. */
    static void onceForEachBeginning() {
        NineLedges x = new NineLedges();
        x.goer(1, 12, 20, 0);
        x.goer(5, 13, 0, 0);
        for (int minute = 1; minute <= 10; minute++) {
            x.minutes(1);
            Due.due("BACKS", x.count(6), minute < 2 ? 0 : 1);
            Due.due("TIMES", x.ofGoer(0, 9), minute < 2 ? 0 : 1);
        }
    }

    /** One that BACKS and finds the next YARD full waits, and isn't AT FAULT. */
    static void whoBacksWaits() {
        NineLedges x = new NineLedges();
        x.goer(1, 8, 20, 0);
        x.goer(15, 9, 0, 0);
        x.goer(12, 7, 20, 0);
        x.minutes(6);
        at(x, 8, 9, 7);
        backs(x, 1, 0, 0);
        Due.due("nobody is AT FAULT", x.faults(), 0);
        Due.due("BACKS", x.count(6), 1);
    }

    /** "AT FAULT: .. (0: none, as bits; each till it is OVER)": bit 0, and when it is no more. */
    static void firstBitOfFaults() {
        NineLedges x = new NineLedges();
        x.goer(30, 8, 20, 0);
        x.goer(10, 9, 2, 0);
        Due.due("none", x.faults(), 0);
        x.minutes(1);
        Due.due("none", x.faults(), 0);
        x.minutes(1);
        Due.due("bit 0", x.faults(), 1);
        x.home(1);
        x.start(1, 999);
        x.minutes(12);
        at(x, 20);
        Due.due("till it is OVER", x.faults(), 1);
        x.minutes(1);
        Due.due("OVER", x.ofGoer(0, 5), 2);
        Due.due("none", x.faults(), 0);
    }

    /** The same: bit 7. */
    static void lastBitOfFaults() {
        NineLedges x = new NineLedges();
        for (int i = 0; i < 6; i++) {
            x.goer(0, 0, 1, 999);
        }
        x.goer(15, 9, 2, 0);
        x.goer(40, 8, 20, 0);
        x.minutes(2);
        Due.due("bit 7", x.faults(), 128);
        x.become(7, 0);
        x.minutes(1);
        Due.due("it BACKS, AT FAULT still", x.ofGoer(7, 8) * 1000 + x.faults(), 1128);
        x.home(7);
        Due.due("none", x.faults(), 0);
    }

    // ---- the most BACKS

    /**
     * Four LEDGES with two at each, three YARDS between: as long as a LEDGE is full, who comes to it gives way to the
     * one that has given way more often. So there are eight BACKS in seven MINUTES, for ever.
     */
    private static NineLedges forEver() {
        NineLedges x = with(2, 4, 6, 8);
        Due.text(x, 0, "b*10+n");
        x.goer(51, 4, 23, 0);
        x.goer(0, 8, 0, 0);
        x.goer(0, 8, 0, 0);
        x.goer(0, 4, 0, 0);
        x.goer(0, 2, 23, 0);
        x.goer(0, 2, 23, 0);
        x.goer(51, 6, 0, 0);
        x.goer(0, 6, 23, 0);
        return x;
    }

    private static int allTimes(NineLedges x) {
        int times = 0;
        for (int i = 0; i < 8; i++) {
            times += x.ofGoer(i, 9);
        }
        return times;
    }

    /** "BACKS (.. 9999 at most)". */
    static void mostBacks() {
        NineLedges x = forEver();
        for (int i = 0; i < 29; i++) {
            x.minutes(300);
        }
        int backs = x.count(6);
        Due.due("BACKS are TIMES", backs, allTimes(x));
        x.minutes(7);
        Due.due("eight in seven MINUTES", x.count(6), backs + 8);
        x.minutes(7 * ((9999 - backs) / 8 - 1));
        Due.due("nearly", x.count(6) > 9991 && x.count(6) <= 9999);
        for (int i = 0; i < 7; i++) {
            Due.due("BACKS are TIMES, but for the most", x.count(6), Math.min(9999, allTimes(x)));
            x.minutes(1);
        }
        Due.due("BACKS", x.count(6), 9999);
        Due.due("TIMES", allTimes(x) > 9999);
        x.minutes(300);
        Due.due("TIMES go on", allTimes(x) > 10300);
        Due.due("BACKS don't", x.count(6), 9999);
    }

    // ---- draws

    /** z whose next draw gives so much by 4. */
    private static int seedFor(int rest, boolean negative) {
        for (int z = 0; z < 100000; z++) {
            int drawn = z * 1103515245 + 12345;
            if ((drawn >>> 8) % 4 == rest && drawn < 0 == negative) {
                return z;
            }
        }
        return -1;
    }

    /** "if its rest by 4 is 0, there is FOG in it": at a LEDGE nobody is heard then. */
    static void fogByTheRest() {
        for (int rest = 0; rest < 4; rest++) {
            for (int sign = 0; sign < 2; sign++) {
                NineLedges x = with(5);
                x.goer(0, 5, 20, 0);
                x.goer(10, 20, 0, 0);
                x.minutes(1);
                x.seed(seedFor(rest, sign == 1));
                x.loose(1);
                Due.due("rest " + rest, x.ofGoer(0, 6), rest == 0 ? 6 : 5);
            }
        }
    }

    /** FOG is asked for ahead of each MINUTE anew. */
    static void fogOfOneMinute() {
        NineLedges x = with(5);
        x.goer(0, 5, 20, 0);
        x.goer(10, 20, 0, 0);
        x.minutes(1);
        int z = 1;
        int fogs = 0;
        x.seed(z);
        while (fogs == 0 && x.count(2) < 60) {
            z = z * 1103515245 + 12345;
            fogs += (z >>> 8) % 4 == 0 ? 1 : 0;
            x.loose(1);
            Due.due("z", x.count(10), z);
            Due.due("it went in FOG alone", x.ofGoer(0, 6), fogs == 0 ? 5 : 6);
        }
        Due.due("FOG came", fogs, 1);
    }

    /** "Ahead of each MINUTE a draw", whoever is ON or isn't; minutes() draws none. */
    static void aDrawForEachMinute() {
        NineLedges x = new NineLedges();
        x.loose(3);
        int z = 1;
        for (int i = 0; i < 3; i++) {
            z = z * 1103515245 + 12345;
        }
        Due.due("three", x.count(10), z);
        x.minutes(300);
        Due.due("none", x.count(10), z);
        x.goer(0, 0, 9, 0);
        x.then(300, 0, 5);
        x.overBy();
        x.stuckBy();
        x.bestStart(0, 0);
        x.spare(0);
        x.newOne(0);
        x.tell(0);
        x.check();
        Due.due("none AHEAD", x.count(10), z);
    }

    /** "(an int)": z wraps; "(1 at first)". */
    static void zWraps() {
        NineLedges x = new NineLedges();
        Due.due("at first", x.count(10), 1);
        int[] some = {0, -1, 2147483647, -2147483648, 1103515245};
        for (int v : some) {
            x.seed(v);
            x.loose(1);
            Due.due("z behind " + v, x.count(10), (int) (v * 1103515245L + 12345L));
        }
    }

    // ---- AHEAD

    /** "AHEAD by n (0 to 300) MINUTES". */
    static void aheadBy0To300() {
        NineLedges x = new NineLedges();
        x.goer(10, 0, 23, 254);
        Due.due("by 0", x.then(0, 0, 5), 0);
        Due.due("by 253", x.then(253, 0, 5), 0);
        Due.due("by 254", x.then(254, 0, 6), 0);
        Due.due("by 299", x.then(299, 0, 6), 23);
        Due.due("by 299", x.then(299, 0, 7), 1);
        Due.due("by 300", x.then(300, 0, 7), 0);
        Due.due("by 300", x.then(300, 0, 5), 1);
        x.start(0, 253);
        Due.due("by 299", x.then(299, 0, 5), 1);
        Due.due("by 300", x.then(300, 0, 5), 2);
        Due.due("by 301", x.then(301, 0, 5), Due.BEYOND);
        Due.due("by -1", x.then(-1, 0, 5), Due.BEYOND);
        Due.due("nothing changed", x.count(2) + x.count(3) + x.count(4), 0);
    }

    /** "of a GOER what 5 .. 9 as in ofGoer()". */
    static void aheadEachWhat() {
        NineLedges x = with(3);
        x.goer(52, 5, 20, 0);
        x.goer(19, 6, 0, 0);
        int[][] rows = {
            // by n: how it is, YARD, WAIT, whether it BACKS, TIMES
            {0, 0, -1, 0, 0, 0}, {1, 1, 5, 0, 0, 0}, {2, 1, 5, 0, 1, 1}, {3, 1, 4, 2, 1, 1}, {5, 1, 4, 0, 1, 1},
            {6, 1, 3, 2, 0, 1},
        };
        for (int[] row : rows) {
            for (int what = 5; what <= 9; what++) {
                Due.due("by " + row[0] + " what " + what, x.then(row[0], 0, what), row[what - 4]);
            }
        }
        x.minutes(6);
        for (int what = 5; what <= 9; what++) {
            Due.due("by 0 what " + what, x.then(0, 0, what), rows[5][what - 4]);
        }
    }

    /** "as they would go by (beyond 9999, too)". */
    static void aheadBeyond9999() {
        NineLedges x = at9900();
        x.minutes(99);
        x.goer(0, 0, 20, 999);
        Due.due("by 1", x.then(1, 0, 6), 0);
        Due.due("by 21", x.then(21, 0, 6), 20);
        Due.due("by 22", x.then(22, 0, 5), 2);
        Due.due("by 300", x.then(300, 0, 5), 2);
        Due.due("OVER BY", x.overBy(), 22);
        Due.due("MINUTE", x.count(2), 9999);
        Due.due("one MINUTE", x.minutes(1), Due.STATE);
    }

    /** "without FOG", whatever a draw would give. */
    static void aheadWithoutFog() {
        NineLedges x = with(5);
        x.goer(0, 5, 6, 0);
        x.goer(0, 20, 17, 0);
        x.minutes(1);
        x.seed(seedFor(0, false));
        Due.due("it would wait", x.then(1, 0, 6), 5);
        Due.due("till the other is OVER", x.then(5, 0, 6), 6);
        Due.due("OVER BY", x.overBy(), 6);
        for (int over : new int[] {0, 0, 0, 1, 1, 2}) {
            x.tell(over);
        }
        Due.due("check", x.check(), 0);
        x.loose(1);
        Due.due("by draws it goes", x.ofGoer(0, 6), 6);
    }
}
