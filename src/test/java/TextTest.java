/** Promises 10 to 12: THE TAPE, TEXTS, what they give. */
final class TextTest {
    private TextTest() {
    }

    public static void main(String[] args) throws Exception {
        Due.each(TextTest.class);
    }

    static void feed() {
        NineLedges x = new NineLedges();
        Due.due("feed", x.feed(0x2b6cL, 1), 1);
        Due.due("feed", x.feed(0x7f7f7f7f7f7f6e2bL, 2), 3);
        Due.due("l+n", x.text(0), 1);
        Due.due("l+n", x.law(0, 30, 4, 0), 34);
        Due.due("THE TAPE is empty", x.count(7), 0);
        Due.due("n", x.feed(0L, 0), Due.BEYOND);
        Due.due("n", x.feed(0L, 9), Due.BEYOND);
        Due.due("n", x.feed(0L, -1), Due.BEYOND);
        for (int i = 1; i <= 6; i++) {
            Due.due("feed", x.feed(-1L, 8), 8 * i);
        }
        Due.due("too many", x.feed(0L, 3), Due.FULL);
        Due.due("as it was", x.count(7), 48);
        Due.due("fifty", x.feed(0L, 2), 50);
        Due.due("one more", x.feed(0L, 1), Due.FULL);
        Due.due("BEYOND first", x.feed(0L, 9), Due.BEYOND);
        Due.due("FAULT at once", x.text(1), -10);
        Due.due("empty, too", x.count(7), 0);
    }

    private static int rank(String bytes) {
        NineLedges x = new NineLedges();
        Due.due(bytes, Due.text(x, 0, bytes), 1);
        return x.law(0, 11, -3, 0);
    }

    static void values() {
        Due.due("NUMBER", rank("9999"), 9999);
        Due.due("NUMBER", rank("0007"), 7);
        Due.due("order", rank("2+3*4"), 14);
        Due.due("order", rank("(2+3)*4"), 20);
        Due.due("from the left", rank("10-4-3"), 3);
        Due.due("from the left", rank("100/7/2"), 7);
        Due.due("from the left", rank("100/7*7"), 98);
        Due.due("cut", rank("n/2"), -1);
        Due.due("what it leaves", rank("n%2"), -1);
        Due.due("by 0", rank("l/b"), 0);
        Due.due("by 0", rank("l%b"), 0);
        Due.due("true", rank("l>n"), 1);
        Due.due("true", rank("l<n"), 0);
        Due.due("true", rank("l=11"), 1);
        Due.due("or", rank("5|0"), 1);
        Due.due("or", rank("b|0"), 0);
        Due.due("and", rank("5&n"), 1);
        Due.due("and", rank("5&b"), 0);
        Due.due("and binds more than or", rank("1|0&0"), 1);
        Due.due("and binds more than or", rank("1&0|1"), 1);
        Due.due("a comparison binds more than and", rank("2&1<2"), 1);
        Due.due("a sum binds more than a comparison", rank("1+1=2"), 1);
        Due.due("not", rank("!l"), 0);
        Due.due("not", rank("!b"), 1);
        Due.due("not binds most", rank("!b+5"), 6);
        Due.due("not binds most", rank("!b*5"), 5);
        Due.due("not of a bracket", rank("!(b*5)+7"), 8);
        Due.due("not of not", rank("!!l"), 1);
        Due.due("not of a NUMBER", rank("!10"), 0);
        Due.due("not at the right", rank("3-!0"), 2);
        Due.due("a comparison in brackets", rank("(1<2)<3"), 1);
        Due.due("two comparisons", rank("1<2&3>2"), 1);
        Due.due("wraps", rank("9999*9999*9999"), (int) (9999L * 9999L * 9999L));
        Due.due("open five", rank("(((((5)))))"), 5);
        Due.due("open five", rank("!!!!!5"), 0);
        Due.due("open five, twice", rank("!(!(!5))+!!!!!b"), 1);
        Due.due("closed ones don't count", rank("(1)+(1)+(1)+(1)+(1)+(1)"), 6);
        Due.due("closed ones don't count", rank("!0+!0+!0+!0+!0+!0"), 6);
        NineLedges x = new NineLedges();
        Due.text(x, 0, "l/n");
        Due.due("the least by -1", x.law(0, -2147483648, -1, 0), -2147483648);
        Due.text(x, 0, "l%n");
        Due.due("the least by -1", x.law(0, -2147483648, -1, 0), 0);
        Due.text(x, 0, "l-n");
        Due.due("wraps, and is no ERROR", x.law(0, -2147483647, 2, 0), 2147483647);
        Due.due("any number", x.law(0, -2000000000, 1, 0), -2000000001);
        Due.due("not told", x.told(1), 0);
        Due.due("use", x.law(2, 0, 0, 0), Due.BEYOND);
        Due.due("use", x.law(-1, 0, 0, 0), Due.BEYOND);
    }

    static void tolls() {
        NineLedges x = new NineLedges();
        Due.due("without a TEXT", x.law(1, 99, 0, 0), 99);
        Due.due("held", x.law(1, 100, 0, 0), 99);
        Due.due("held", x.law(1, -100, 0, 0), -99);
        Due.due("TOLL", Due.text(x, 1, "l-k*t"), 1);
        Due.due("l-k*t", x.law(1, 20, 3, 5), 5);
        Due.due("held", x.law(1, 0, 10, 10), -99);
        Due.due("RANK has none", x.law(0, 1000, 10, 10), 1000);
    }

    static void names() {
        NineLedges x = new NineLedges();
        Due.due("n", Due.text(x, 0, "n*100+b*10+l"), 1);
        Due.due("in order", x.law(0, 1, 2, 3), 231);
        Due.due("k", Due.text(x, 0, "k"), -10);
        Due.due("t", Due.text(x, 0, "t"), -10);
        Due.due("n", Due.text(x, 1, "n"), -10);
        Due.due("b", Due.text(x, 1, "b"), -10);
        Due.due("the one ahead stays", x.law(0, 1, 2, 3), 231);
        x.goer(5, 0, 9, 0);
        x.goer(5, 0, 9, 0);
        Due.due("RANK of a GOER", x.ofGoer(1, 12), 105);
    }

    private static int fault(String bytes) {
        NineLedges x = new NineLedges();
        int answer = Due.text(x, 0, bytes);
        Due.due("no ERROR", x.told(1) + x.told(2) + x.told(3) + x.told(4) + x.told(5), 0);
        Due.due("the one ahead stays", x.law(0, 41, 0, 0), 41);
        return -10 - answer;
    }

    static void faults() {
        Due.due("empty", fault(""), 0);
        Due.due("too early", fault("1+"), 2);
        Due.due("too early", fault("(1"), 2);
        Due.due("too early", fault("!"), 1);
        Due.due("too early", fault("(1+(2*3)"), 8);
        Due.due("five digits", fault("12345"), 4);
        Due.due("blank", fault("1 +2"), 1);
        Due.due("sign", fault("-1"), 0);
        Due.due("two operators", fault("1+-1"), 2);
        Due.due("two comparisons", fault("1<2<3"), 3);
        Due.due("two comparisons", fault("1<2+5=3"), 5);
        Due.due("two comparisons", fault("(1=2=3)"), 4);
        Due.due("no bracket open", fault("1)"), 1);
        Due.due("no bracket open", fault("(1)+1)"), 5);
        Due.due("empty brackets", fault("()"), 1);
        Due.due("a NUMBER behind a bracket", fault("(1)2"), 3);
        Due.due("a bracket behind a NUMBER", fault("2(1)"), 1);
        Due.due("a NAME behind a NUMBER", fault("2l"), 1);
        Due.due("a NUMBER behind a NAME", fault("l2"), 1);
        Due.due("! behind a NUMBER", fault("1!2"), 1);
        Due.due("a sixth open", fault("((((((1))))))"), 5);
        Due.due("a sixth open", fault("!!!!!!1"), 5);
        Due.due("a sixth open", fault("(!(!(!1)))"), 5);
        Due.due("a sixth open behind", fault("1+(!(!(1+!!1)))"), 9);
        Due.due("another sign", fault("l^n"), 1);
        Due.due("another sign", fault("1" + (char) 200), 1);
    }

    static void wrongTexts() {
        NineLedges x = new NineLedges();
        Due.feed(x, "l+");
        Due.due("use", x.text(2), Due.BEYOND);
        Due.due("use", x.text(-1), Due.BEYOND);
        Due.due("THE TAPE stays", x.count(7), 2);
        Due.due("goes on", Due.text(x, 0, "5"), 1);
        Due.due("l+5", x.law(0, 1, 0, 0), 6);
        String fifty = "1+1+1+1+1+1+1+1+1+1+1+1+1+1+1+1+1+1+1+1+1+1+1+1+10";
        Due.due("fifty bytes", fifty.length(), 50);
        Due.due("fifty bytes", Due.text(x, 0, fifty), 1);
        Due.due("fifty bytes", x.law(0, 0, 0, 0), 34);
        Due.due("fifty bytes too early", Due.text(x, 0, fifty.substring(0, 49) + "+"), -60);
    }
}
