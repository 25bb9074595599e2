/** The edges that section 2 of the Terms and promises 10 to 12 name: each sentence has a test of its own. */
final class TextEdgeTest {
    private static final int LEAST = -2147483648;
    private static final int MOST = 2147483647;

    private TextEdgeTest() {
    }

    public static void main(String[] args) throws Exception {
        Due.each(TextEdgeTest.class);
    }

    private static int rank(String bytes, int l, int n, int b) {
        NineLedges x = new NineLedges();
        Due.due(bytes, Due.text(x, 0, bytes), 1);
        return x.law(0, l, n, b);
    }

    private static void gives(String bytes, int want) {
        Due.due(bytes, rank(bytes, 7, -2, 0), want);
    }

    /** The FAULT of a TEXT of RANK: the one ahead stays, THE TAPE is empty, and there is no ERROR. */
    private static void fault(String bytes, int want) {
        NineLedges x = new NineLedges();
        Due.text(x, 0, "l*10+n");
        Due.due("FAULT of " + bytes, Due.text(x, 0, bytes), -10 - want);
        Due.due("the one ahead stays", x.law(0, 4, 2, 0), 42);
        Due.due("THE TAPE is empty", x.count(7), 0);
        Due.due("no ERROR", Due.errors(x), 0);
    }

    // ---- THE TAPE

    /** "THE TAPE (bytes, at most 50)": promise 10, FULL. */
    static void tapeOfFiftyBytes() {
        NineLedges x = new NineLedges();
        for (int i = 1; i <= 50; i++) {
            Due.due("byte " + i, x.feed(0x31, 1), i);
        }
        for (int n = 1; n <= 8; n++) {
            Due.due("then " + n + " more", x.feed(0x31, n), Due.FULL);
        }
        Due.due("fifty", x.count(7), 50);
        Due.due("told", x.told(4), 8);
        Due.due("a NUMBER of fifty digits", x.text(0), -14);
        Due.due("empty", x.count(7), 0);
        Due.due("and has room again", x.feed(0x31, 8), 8);
    }

    /** A word comes to THE TAPE whole or not at all. */
    static void wholeWordsAlone() {
        NineLedges x = new NineLedges();
        Due.feed(x, "1234+1234+1234+1234+1234+1234+1234+1234+123");
        Due.due("43 bytes", x.count(7), 43);
        Due.due("51", x.feed(0x3131313131313131L, 8), Due.FULL);
        Due.due("43 bytes", x.count(7), 43);
        Due.due("50", x.feed(0x312b312b312b34L, 7), 50);
        Due.due("51", x.feed(0x31, 1), Due.FULL);
        Due.due("a TEXT of fifty bytes", x.text(0), 1);
        Due.due("9 times 1234, and 3", x.law(0, 0, 0, 0), 11109);
    }

    /** Promise 10: "The n lowest bytes (1 .. 8) of a word, the lowest first". */
    static void lowestFirst() {
        long word = 0x382b372b362b352bL;
        String bytes = "+5+6+7+8";
        int[] sums = {0, 6, 6, 12, 12, 19, 19, 27, 27};
        for (int n = 1; n <= 8; n++) {
            NineLedges x = new NineLedges();
            Due.feed(x, "1");
            Due.due("feed(.., " + n + ")", x.feed(word, n), 1 + n);
            if (n % 2 == 0) {
                Due.due("1" + bytes.substring(0, n), x.text(0), 1);
                Due.due("1" + bytes.substring(0, n), x.law(0, 0, 0, 0), sums[n]);
            } else {
                Due.due("it ends too early", x.text(0), -10 - 1 - n);
            }
        }
    }

    /** The sign of a word doesn't matter: its highest byte is a byte like any other. */
    static void highestByte() {
        NineLedges x = new NineLedges();
        Due.due("feed", x.feed(0xb16c2b6c2b6c2b6cL, 8), 8);
        Due.due("byte 177 at place 7", x.text(0), -17);
        Due.due("feed", x.feed(-1L, 8), 8);
        Due.due("byte 255", x.text(0), -10);
        Due.due("feed", x.feed(0x312b6c2b6c2b6c2bL | LEAST, 1), 1);
        Due.due("the byte alone", x.text(0), -10);
    }

    /** "n (1 .. 8)". */
    static void howManyBytes() {
        NineLedges x = new NineLedges();
        Due.due("0", x.feed(0x6c, 0), Due.BEYOND);
        Due.due("9", x.feed(0x6c, 9), Due.BEYOND);
        Due.due("-1", x.feed(0x6c, -1), Due.BEYOND);
        Due.due("nothing came", x.count(7), 0);
        Due.due("1", x.feed(0x6c, 1), 1);
        Due.due("8", x.feed(0x6c, 8), 9);
        Due.due("told", x.told(1), 3);
    }

    // ---- TEXTS

    /** A TAPE with nothing on it ends too early. */
    static void emptyTape() {
        NineLedges x = new NineLedges();
        Due.due("text(0)", x.text(0), -10);
        Due.due("text(1)", x.text(1), -10);
        Due.due("without a TEXT", x.law(0, 5, 6, 7), 5);
        Due.due("no ERROR", Due.errors(x), 0);
    }

    /** "a NUMBER of 1 to 4 digits". */
    static void oneToFourDigits() {
        gives("0", 0);
        gives("9", 9);
        gives("10", 10);
        gives("999", 999);
        gives("9999", 9999);
        gives("0000", 0);
        gives("0009", 9);
        gives("9999+9999", 19998);
        gives("1234/(1234)", 1);
        gives("1+l+1+n", 7);
        fault("1+l5", 3);
        fault("1234+n1", 6);
        fault("1*(2)3", 5);
        fault("00000", 4);
        fault("12345", 4);
        fault("1+12345", 6);
        fault("12345+1", 4);
        fault("(12345)", 5);
    }

    /** "At most 5 of ! and ( are open at once." */
    static void fiveOpen() {
        gives("!!!!!0", 1);
        gives("!!!!0", 0);
        gives("(((((9)))))", 9);
        gives("!(!(!9))", 0);
        gives("(!(!(9)))", 1);
        fault("!!!!!!0", 5);
        fault("((((((9))))))", 5);
        fault("!(!(!(9)))", 5);
        fault("((((((", 5);
        fault("(((((!9)))))", 5);
        fault("!!!!!(9)", 5);
    }

    /** ! is open till its Q is read, ( till its ). */
    static void openIsWhatIsNotClosedYet() {
        gives("!0+!0+!0+!0+!0+!0+!0", 7);
        gives("(1)+(1)+(1)+(1)+(1)+(1)+(1)", 7);
        gives("(((((1)))))+(((((1)))))", 2);
        gives("!!!!!0+!!!!!0", 2);
        gives("(!0+!0+!0+!0+!0+!0)", 6);
        gives("((((!0+!0))))", 2);
        gives("!(0)+(!(0)+(!(0)+(!(0)+(!0))))", 5);
        gives("((((1)+(1))+(1))+(1))+(((((1)))))", 5);
        gives("1*1+1|1*(((((1)))))", 1);
        fault("1+1+((((((1))))))", 9);
        fault("1*1+1=1&1|!!!!!!1", 15);
        fault("(1*1+1+1+1+(((((1", 15);
        fault("(((((1))))+(((((1", 15);
        fault("!0+!!!!!!0", 8);
        fault("(1)+((((((1))))))", 9);
        fault("(((((1)+(1))", 12);
        fault("(((((1)+((1", 9);
    }

    /** What a TEXT that isn't one left open is of no matter to the next. */
    static void nothingIsLeftOfAFault() {
        for (String wrong : new String[] {"(((((", "(((((1", "!!!!!", "!!!!!!", "1+(((", "((((((", "1234", "123x", "(1<2", "1<"}) {
            NineLedges x = new NineLedges();
            Due.text(x, 0, wrong);
            Due.due("behind " + wrong, Due.text(x, 0, "(((((5)))))"), 1);
            Due.due("five open", x.law(0, 0, 0, 0), 5);
            Due.text(x, 0, wrong);
            Due.due("behind " + wrong, Due.text(x, 0, "!!!!!0+1234"), 1);
            Due.due("five !", x.law(0, 0, 0, 0), 1235);
            Due.text(x, 0, wrong);
            Due.due("behind " + wrong, Due.text(x, 0, "1)"), -11);
            Due.text(x, 0, wrong);
            Due.due("behind " + wrong, Due.text(x, 0, "l=7"), 1);
            Due.due("one comparison", x.law(0, 7, 0, 0), 1);
        }
    }

    /** "Ints that wrap". */
    static void intsThatWrap() {
        Due.due("above", rank("l+n", MOST, 1, 0), LEAST);
        Due.due("below", rank("l-n", LEAST, 1, 0), MOST);
        Due.due("times", rank("l*n", MOST, 2, 0), -2);
        Due.due("times", rank("l*n", LEAST, -1, 0), LEAST);
        Due.due("times", rank("l*n", 65536, 65536, 0), 0);
        Due.due("least less least", rank("l-n", LEAST, LEAST, 0), 0);
        Due.due("on the way", rank("l+n-n", MOST, 5, 0), MOST);
        Due.due("no difference for <", rank("l<n", LEAST, MOST, 0), 1);
        Due.due("no difference for >", rank("l>n", LEAST, MOST, 0), 0);
        Due.due("of NUMBERS alone", rank("9999*9999*9999*9999", 0, 0, 0), (int) (9999L * 9999L * 9999L * 9999L));
    }

    /** "/ cut, % the rest that it leaves". */
    static void quotientsAndRests() {
        int[][] rows = {
            {7, 2, 3, 1}, {-7, 2, -3, -1}, {7, -2, -3, 1}, {-7, -2, 3, -1}, {1, 2, 0, 1}, {-1, 2, 0, -1}, {6, 3, 2, 0},
            {0, 5, 0, 0}, {LEAST, 1, LEAST, 0}, {LEAST, LEAST, 1, 0}, {MOST, LEAST, 0, MOST}, {LEAST, MOST, -1, -1},
        };
        for (int[] row : rows) {
            Due.due(row[0] + "/" + row[1], rank("l/n", row[0], row[1], 0), row[2]);
            Due.due(row[0] + "%" + row[1], rank("l%n", row[0], row[1], 0), row[3]);
        }
    }

    /** The least int by -1 wraps, and leaves no rest. */
    static void leastByMinusOne() {
        Due.due("/", rank("l/n", LEAST, -1, 0), LEAST);
        Due.due("%", rank("l%n", LEAST, -1, 0), 0);
        Due.due("%", rank("l%(0-1)", LEAST, 0, 0), 0);
    }

    /** "both by 0 are 0". */
    static void byZero() {
        for (int v : new int[] {0, 1, -1, 5, LEAST, MOST}) {
            Due.due(v + "/0", rank("l/n", v, 0, 0), 0);
            Due.due(v + "%0", rank("l%n", v, 0, 0), 0);
        }
        gives("7/0", 0);
        gives("7%0", 0);
        gives("7/(3-3)+1", 1);
        gives("7/0/0", 0);
        gives("5+7%0*9", 5);
    }

    /** "| & < = > ! are 1 or 0, what is not 0 being true". */
    static void trueOrFalse() {
        int[] some = {0, 1, -1, 2, -2, LEAST, MOST};
        for (int a : some) {
            Due.due("!" + a, rank("!l", a, 0, 0), a == 0 ? 1 : 0);
            Due.due("!!" + a, rank("!!l", a, 0, 0), a == 0 ? 0 : 1);
            for (int b : some) {
                Due.due(a + "|" + b, rank("l|n", a, b, 0), a == 0 && b == 0 ? 0 : 1);
                Due.due(a + "&" + b, rank("l&n", a, b, 0), a == 0 || b == 0 ? 0 : 1);
                Due.due(a + "<" + b, rank("l<n", a, b, 0), Integer.compare(a, b) < 0 ? 1 : 0);
                Due.due(a + "=" + b, rank("l=n", a, b, 0), Integer.compare(a, b) == 0 ? 1 : 0);
                Due.due(a + ">" + b, rank("l>n", a, b, 0), Integer.compare(a, b) > 0 ? 1 : 0);
            }
        }
    }

    /** "T: A { | A }. A: B { & B }. B: S .. S: P { + P, - P }. P: Q { * Q, / Q, % Q }." */
    static void whatBindsMore() {
        gives("1|1&0", 1);
        gives("0&0|1", 1);
        gives("0&(0|1)", 0);
        gives("2&3=2", 0);
        gives("2=3&2", 0);
        gives("1|2=3", 1);
        gives("1+2<3+1", 1);
        gives("5-2>5-3", 1);
        gives("9-3-2", 4);
        gives("9-(3-2)", 8);
        gives("9-3+2", 8);
        gives("2+3*4", 14);
        gives("2*3+4", 10);
        gives("8-6/2", 5);
        gives("9-7%4", 6);
        gives("8/4/2", 1);
        gives("8/(4/2)", 4);
        gives("8/4*2", 4);
        gives("7%4*2", 6);
        gives("7*4%5", 3);
        gives("9/2%3", 1);
        gives("!0*5", 5);
        gives("!5*0", 0);
        gives("!5+1", 1);
        gives("!0=1", 1);
        gives("5*!0", 5);
        gives("4-!0-!0", 2);
    }

    /** "B: S, or S < S, S = S, S > S": one comparison, unless brackets close it in. */
    static void oneComparison() {
        for (char first : "<=>".toCharArray()) {
            for (char second : "<=>".toCharArray()) {
                fault("1" + first + "2" + second + "3", 3);
                fault("1" + first + "2+1" + second + "3", 5);
                fault("(1" + first + "2" + second + "3)", 4);
            }
        }
        gives("1<2&2<3", 1);
        gives("1<2|2<3", 1);
        gives("(1<2)<3", 1);
        gives("3>(1<2)", 1);
        gives("(1=2)=(2=3)", 1);
        fault("1<2&2<3<4", 7);
        fault("(1<2)<3<4", 7);
    }

    private static boolean isIn(String signs, int c) {
        return signs.indexOf(c) >= 0;
    }

    /** Each byte alone: a digit and a NAME are TEXTS, behind ! and ( a TEXT goes on, with no other it does. */
    static void everyFirstByte() {
        for (int use = 0; use < 2; use++) {
            String texts = use == 0 ? "0123456789lnb" : "0123456789lkt";
            NineLedges x = new NineLedges();
            for (int c = 0; c < 256; c++) {
                x = c == 128 ? new NineLedges() : x;
                x.feed(c, 1);
                int want = isIn(texts, c) ? 1 : isIn("!(", c) ? -11 : -10;
                Due.due("byte " + c + " for " + use, x.text(use), want);
            }
        }
    }

    /** Each byte behind a NAME: with an operator a TEXT goes on, with any other none does. */
    static void everyByteBehindAName() {
        NineLedges x = new NineLedges();
        for (int c = 0; c < 256; c++) {
            x = c == 128 ? new NineLedges() : x;
            x.feed('l' | c << 8, 2);
            Due.due("byte " + c, x.text(c % 2), isIn("|&<=>+-*/%", c) ? -12 : -11);
        }
    }

    /** Each byte behind a NUMBER: a digit, too. */
    static void everyByteBehindANumber() {
        NineLedges x = new NineLedges();
        for (int c = 0; c < 256; c++) {
            x = c == 128 ? new NineLedges() : x;
            x.feed('7' | c << 8, 2);
            int want = isIn("0123456789", c) ? 1 : isIn("|&<=>+-*/%", c) ? -12 : -11;
            Due.due("byte " + c, x.text(c % 2), want);
        }
    }

    /** Each byte behind an operator, in brackets: as at first. */
    static void everyByteBehindAnOperator() {
        String operators = "|&<=>+-*/%";
        NineLedges x = new NineLedges();
        for (int c = 0; c < 256; c++) {
            x = c == 128 ? new NineLedges() : x;
            x.feed('(' | 'n' << 8 | operators.charAt(c % 10) << 16 | (long) c << 24, 4);
            Due.due("byte " + c, x.text(0), isIn("0123456789lnb!(", c) ? -14 : -13);
        }
    }

    /** Each byte behind a bracket that is closed: no digit, and ) only while one is open. */
    static void everyByteBehindABracket() {
        NineLedges x = new NineLedges();
        for (int c = 0; c < 256; c++) {
            x = c == 128 ? new NineLedges() : x;
            x.feed('(' | 'b' << 8 | ')' << 16 | (long) c << 24, 4);
            Due.due("byte " + c, x.text(0), isIn("|&<=>+-*/%", c) ? -14 : -13);
        }
        fault("(1))", 3);
        gives("((1))", 1);
        fault("((1)", 4);
    }

    /** "FAULT: .. how many there are, if it ends too early." */
    static void endsTooEarly() {
        fault("!", 1);
        fault("(", 1);
        fault("1+", 2);
        fault("l<", 2);
        fault("(1", 2);
        fault("(1+2*3", 6);
        fault("((1)", 4);
        fault("1+(2", 4);
        fault("1+!", 3);
        String fifty = "1+1+1+1+1+1+1+1+1+1+1+1+1+1+1+1+1+1+1+1+1+1+1+1+1+";
        Due.due("fifty bytes", fifty.length(), 50);
        fault(fifty, 50);
        fault(fifty.substring(0, 49) + "x", 49);
        gives(fifty.substring(0, 49), 25);
        gives(fifty.substring(0, 48) + "25", 49);
    }

    // ---- USES

    /** "USES: 0 RANK, NAMES l, n, b .. 1 TOLL, NAMES l, k, t": those of the one aren't those of the other. */
    static void namesOfEachUse() {
        NineLedges x = new NineLedges();
        for (String name : new String[] {"k", "t"}) {
            Due.due(name + " in RANK", Due.text(x, 0, name), -10);
            Due.due(name + " in RANK", Due.text(x, 0, "l+" + name), -12);
        }
        for (String name : new String[] {"n", "b"}) {
            Due.due(name + " in TOLL", Due.text(x, 1, name), -10);
            Due.due(name + " in TOLL", Due.text(x, 1, "(" + name + ")"), -11);
        }
        Due.due("both are as at first", x.law(0, 8, 1, 2) * 100 + x.law(1, 9, 1, 2), 809);
        for (String name : new String[] {"l", "n", "b"}) {
            Due.due(name, Due.text(x, 0, name), 1);
            Due.due(name, x.law(0, 11, 22, 33), name.equals("l") ? 11 : name.equals("n") ? 22 : 33);
        }
        for (String name : new String[] {"l", "k", "t"}) {
            Due.due(name, Due.text(x, 1, name), 1);
            Due.due(name, x.law(1, 11, 22, 33), name.equals("l") ? 11 : name.equals("k") ? 22 : 33);
        }
        Due.due("L", Due.text(x, 0, "L"), -10);
    }

    /** "without a TEXT l." */
    static void withoutAText() {
        NineLedges x = new NineLedges();
        Due.due("RANK", x.law(0, MOST, 1, 2), MOST);
        Due.due("RANK", x.law(0, LEAST, 1, 2), LEAST);
        Due.due("TOLL", x.law(1, 98, 1, 2), 98);
        Due.due("TOLL", x.law(1, 100, 1, 2), 99);
        Due.text(x, 0, "x");
        Due.text(x, 1, "x");
        Due.due("RANK", x.law(0, 5, 1, 2), 5);
        Due.due("TOLL", x.law(1, 5, 1, 2), 5);
    }

    /** "held within -99 to 99": TOLL; RANK is any number. */
    static void tollIsHeld() {
        NineLedges x = new NineLedges();
        Due.text(x, 0, "l+n-n");
        Due.text(x, 1, "l+k-k");
        int[] all = {0, 1, -1, 98, 99, 100, -98, -99, -100, 101, 1000, MOST, LEAST};
        for (int v : all) {
            Due.due("RANK " + v, x.law(0, v, 0, 0), v);
            Due.due("TOLL " + v, x.law(1, v, 0, 0), Math.max(-99, Math.min(99, v)));
        }
        Due.text(x, 1, "l*1000/1000");
        Due.due("held at the end, not on the way", x.law(1, 50, 0, 0), 50);
    }

    /** Promise 11: "in place of one ahead", which a shorter one is, too. */
    static void inPlaceOfOneAhead() {
        NineLedges x = new NineLedges();
        Due.due("long", Due.text(x, 0, "(((((l+1)*2+1)*2+1)*2+1)*2+1)*2"), 1);
        Due.due("long", x.law(0, 0, 0, 0), 62);
        Due.due("short", Due.text(x, 0, "3"), 1);
        Due.due("short", x.law(0, 0, 0, 0), 3);
        Due.due("TOLL", Due.text(x, 1, "4"), 1);
        Due.due("RANK is as it was", x.law(0, 0, 0, 0), 3);
        Due.due("TOLL", x.law(1, 0, 0, 0), 4);
        Due.due("RANK", Due.text(x, 0, "5"), 1);
        Due.due("TOLL is as it was", x.law(1, 0, 0, 0), 4);
    }

    /** "BEYOND (THE TAPE stays)"; a FAULT empties it. */
    static void tapeBehindARefusal() {
        NineLedges x = new NineLedges();
        Due.feed(x, "l+");
        for (int use : new int[] {-1, 2, LEAST, MOST}) {
            Due.due("text(" + use + ")", x.text(use), Due.BEYOND);
            Due.due("THE TAPE stays", x.count(7), 2);
        }
        Due.feed(x, "40");
        Due.due("it is what it was", x.text(0), 1);
        Due.due("l+40", x.law(0, 2, 0, 0), 42);
        Due.due("empty then", x.count(7), 0);
        Due.due("FAULT", Due.text(x, 0, "l+"), -12);
        Due.due("empty, too", x.count(7), 0);
        Due.due("told", Due.errors(x), 4);
    }

    /** Promise 12: law() works a TEXT out each time anew. */
    static void lawAgain() {
        NineLedges x = new NineLedges();
        Due.text(x, 0, "l*n-b");
        for (int i = -3; i <= 3; i++) {
            Due.due("l*n-b", x.law(0, i, 10, 1), 10 * i - 1);
        }
        Due.due("no such USE", x.law(2, 1, 1, 1), Due.BEYOND);
        Due.due("no such USE", x.law(-1, 1, 1, 1), Due.BEYOND);
        Due.due("an answer like an ERROR", x.law(0, -1, 1000000001, 0), Due.BEYOND);
        Due.due("told", x.told(1), 2);
    }
}
