/**
 * A path a foot wide along a cliff, on which goers turn or pass at a few ledges alone.
 * The document's words (YARD, LEDGE, GOER, ..) are used in its sense.
 */
public final class NineLedges {
    private static final int LOW = -1000000000;
    private static final int BEYOND = LOW - 1;
    private static final int NONE = LOW - 2;
    private static final int STATE = LOW - 3;
    private static final int FULL = LOW - 4;
    private static final int KIND = LOW - 5;
    private static final int ERRORS = 5;

    private static final int YARDS = 24;
    private static final int MOST_ROOM = 5;
    private static final int MOST_LEDGES = 9;
    private static final int MOST_GOERS = 8;
    private static final int KINDS = 7;
    private static final int MOST_START = 999;
    private static final int MOST_MINUTE = 9999;
    private static final int MOST_BACKS = 9999;
    private static final int MOST_TAKINGS = 99999;
    private static final int MOST_AHEAD = 300;
    private static final int STARTS_TRIED = 60;
    private static final int MOST_SPARE = 60;

    private static final int HOME = 0;
    private static final int ON = 1;
    private static final int OVER = 2;

    private static final int USES = 2;
    private static final int RANK = 0;
    private static final int TOLL = 1;
    private static final int MOST_TOLL = 99;
    private static final int LEAST_INT = -2147483648;
    private static final int MOST_INT = 2147483647;
    private static final int TAPE = 50;
    private static final int MOST_OPEN = 5;
    private static final int MOST_DIGITS = 4;

    private static final int VOICES = 4;
    private static final int TRACE = 40;
    private static final int WAITING = 20;
    private static final int SHEETS = 4;
    private static final int SHEET = 40;

    /** Of each KIND the KIND above it; -1: none. */
    private static final int[] ABOVE = {-1, 0, 0, 0, 1, 2, 3};

    private final Walker[] kinds;
    private final Cliff now;
    private final Cliff ahead;
    private final Cliff kept;
    private int images;
    private final Text draft;
    private final Row bodies;
    private final Row[] sheets;
    private final int[] sheetBits;
    private final int[] errors;

    public NineLedges() {
        kinds = new Walker[] {
            new Walker(), new Coffin(), new Goat(), new Wedding(), new Sleeping(), new Herd(), new Blind()
        };
        now = new Cliff();
        ahead = new Cliff();
        kept = new Cliff();
        draft = new Text(LEAST_INT, MOST_INT);
        bodies = new Row(TRACE);
        sheets = new Row[SHEETS];
        for (int i = 0; i < SHEETS; i++) {
            sheets[i] = new Row(SHEET);
        }
        sheetBits = new int[SHEETS];
        errors = new int[ERRORS + 1];
    }

    // ---- the path, goers

    public int room(int yard, int v) {
        int refusal = now.refusesRoom(yard, v);
        if (refusal != 0) {
            return fail(refusal);
        }
        int was = now.space[yard];
        now.space[yard] = v;
        return was;
    }

    public int ofYard(int yard, int what) {
        if (!isYard(yard) || what < 0 || what > 2) {
            return fail(BEYOND);
        }
        if (what == 0) {
            return now.space[yard];
        }
        return what == 1 ? now.crowdAt(yard) : now.ledgeAt(yard);
    }

    public int goer(int km, int from, int to, int start) {
        if (!isKindAndNumber(km) || !isYard(from) || !isYard(to) || from == to || !isStart(start)) {
            return fail(BEYOND);
        }
        if (now.company >= MOST_GOERS) {
            return fail(FULL);
        }
        int number = now.company;
        Goer g = now.goers[number];
        g.turnInto(kinds[km / 10], km / 10, km % 10);
        g.from = from;
        g.to = to;
        g.start = start;
        g.sendHome();
        now.company++;
        return number;
    }

    public int ofGoer(int goer, int what) {
        if (!isGoer(goer) || what < 0 || what > 14) {
            return fail(BEYOND);
        }
        return what == 12 ? now.rankOf(now.goers[goer]) : now.goers[goer].fact(what);
    }

    public int become(int goer, int km) {
        if (!isGoer(goer) || !isKindAndNumber(km)) {
            return fail(BEYOND);
        }
        int was = now.goers[goer].kind;
        now.goers[goer].turnInto(kinds[km / 10], km / 10, km % 10);
        return was;
    }

    public int as(int goer, int kind) {
        if (!isGoer(goer) || kind < 0 || kind >= KINDS) {
            return fail(BEYOND);
        }
        return isUnder(now.goers[goer].kind, kind) ? now.goers[goer].m : fail(KIND);
    }

    public int start(int goer, int v) {
        if (!isGoer(goer) || !isStart(v)) {
            return fail(BEYOND);
        }
        Goer g = now.goers[goer];
        if (g.how != HOME) {
            return fail(STATE);
        }
        int was = g.start;
        g.start = v;
        return was;
    }

    public int home(int goer) {
        if (!isGoer(goer)) {
            return fail(BEYOND);
        }
        int was = now.goers[goer].how;
        now.goers[goer].sendHome();
        return was;
    }

    // ---- texts

    public int feed(long word, int n) {
        if (n < 1 || n > 8) {
            return fail(BEYOND);
        }
        if (now.tape.size + n > TAPE) {
            return fail(FULL);
        }
        for (int i = 0; i < n; i++) {
            now.tape.add((int) ((word >>> (8 * i)) & 255L));
        }
        return now.tape.size;
    }

    public int text(int use) {
        if (!isUse(use)) {
            return fail(BEYOND);
        }
        int fault = draft.faultOf(now.tape, use == RANK ? "lnb" : "lkt");
        now.tape.clear();
        if (fault >= 0) {
            return -10 - fault;
        }
        now.laws[use].copyFrom(draft);
        return 1;
    }

    public int law(int use, int a, int b, int c) {
        return isUse(use) ? now.laws[use].value(a, b, c) : fail(BEYOND);
    }

    // ---- minutes

    public int minutes(int n) {
        int refusal = refusesMinutes(n);
        if (refusal != 0) {
            return fail(refusal);
        }
        for (int i = 0; i < n; i++) {
            now.passMinute(false);
        }
        return now.howMany(OVER);
    }

    public int loose(int n) {
        int refusal = refusesMinutes(n);
        if (refusal != 0) {
            return fail(refusal);
        }
        for (int i = 0; i < n; i++) {
            now.passMinute(now.draw() % 4 == 0);
        }
        return now.howMany(OVER);
    }

    public int then(int n, int goer, int what) {
        if (n < 0 || n > MOST_AHEAD || !isGoer(goer) || what < 5 || what > 9) {
            return fail(BEYOND);
        }
        ahead.copyFrom(now);
        for (int i = 0; i < n; i++) {
            ahead.passMinute(false);
        }
        return ahead.goers[goer].fact(what);
    }

    // ---- what would be

    public int overBy() {
        ahead.copyFrom(now);
        return orNone(ahead.runTillOver());
    }

    public int stuckBy() {
        ahead.copyFrom(now);
        return orNone(ahead.runTillStuck());
    }

    public int bestStart(int goer, int what) {
        if (!isGoer(goer) || what < 0 || what > 2) {
            return fail(BEYOND);
        }
        if (now.goers[goer].how != HOME) {
            return fail(STATE);
        }
        int best = -1;
        int bestOver = 0;
        int bestBacks = 0;
        int end = Math.min(now.minute + STARTS_TRIED - 1, MOST_START);
        for (int tried = now.minute; tried <= end; tried++) {
            ahead.copyFrom(now);
            ahead.goers[goer].start = tried;
            int over = ahead.runTillOver();
            boolean fewer = over == bestOver && ahead.backs < bestBacks;
            if (over >= 0 && (best < 0 || over < bestOver || fewer)) {
                best = tried;
                bestOver = over;
                bestBacks = ahead.backs;
            }
        }
        if (best < 0) {
            return fail(NONE);
        }
        if (what == 0) {
            return best;
        }
        return what == 1 ? bestOver : bestBacks;
    }

    public int spare(int goer) {
        if (!isGoer(goer)) {
            return fail(BEYOND);
        }
        if (now.goers[goer].how != HOME) {
            return fail(STATE);
        }
        ahead.copyFrom(now);
        if (ahead.runTillOver() < 0) {
            return fail(NONE);
        }
        int backsAsItIs = ahead.backs;
        int start = now.goers[goer].start;
        int most = Math.min(MOST_SPARE, MOST_START - start);
        for (int later = 1; later <= most; later++) {
            ahead.copyFrom(now);
            ahead.goers[goer].start = start + later;
            if (ahead.runTillOver() < 0 || ahead.backs > backsAsItIs) {
                return later - 1;
            }
        }
        return most;
    }

    public int without(int ledge) {
        int yard = now.yardOf(ledge);
        if (!isYard(yard)) {
            return fail(BEYOND);
        }
        if (now.crowdAt(yard) > 1) {
            return fail(STATE);
        }
        ahead.copyFrom(now);
        ahead.space[yard] = 1;
        return orNone(ahead.runTillOver());
    }

    public int newOne(int what) {
        if (what < 0 || what > 1) {
            return fail(BEYOND);
        }
        if (now.howManyLedges() >= MOST_LEDGES) {
            return fail(FULL);
        }
        int best = -1;
        int bestOver = 0;
        for (int yard = 0; yard < YARDS; yard++) {
            if (!now.isLedge(yard)) {
                ahead.copyFrom(now);
                ahead.space[yard] = 2;
                int over = ahead.runTillOver();
                if (over >= 0 && (best < 0 || over < bestOver)) {
                    best = yard;
                    bestOver = over;
                }
            }
        }
        if (best < 0) {
            return fail(NONE);
        }
        return what == 0 ? best : bestOver;
    }

    public int faults() {
        int bits = 0;
        for (int i = 0; i < now.company; i++) {
            if (now.goers[i].atFault) {
                bits |= 1 << i;
            }
        }
        return bits;
    }

    // ---- draws, voices, sheets, images, what is told

    public int seed(int v) {
        int was = now.z;
        now.z = v;
        return was;
    }

    public int voice(int goer, int act, int x) {
        if (!isGoer(goer) || act < 0 || act >= VOICES) {
            return fail(BEYOND);
        }
        Goer g = now.goers[goer];
        Walker kind = kinds[g.kind];
        bodies.clear();
        switch (act) {
            case 0:
                return kind.goes(g, bodies, x);
            case 1:
                return kind.blows(g, bodies, x);
            case 2:
                return kind.yields(g, bodies, x);
            default:
                return kind.tells(g, bodies, x);
        }
    }

    public int trace(int i) {
        return bodies.has(i) ? bodies.at(i) : fail(NONE);
    }

    public int sheet(int sheet, int bits, int n) {
        if (!isSheet(sheet) || !isWidth(bits)) {
            return fail(BEYOND);
        }
        if (bits != 0 && n < 0) {
            return fail(STATE);
        }
        if (bits != 0 && n > SHEET) {
            return fail(BEYOND);
        }
        sheetBits[sheet] = bits;
        sheets[sheet].zeros(bits == 0 ? 0 : n);
        return 1;
    }

    public int put(int sheet, int i, int v) {
        int refusal = refusesSheet(sheet);
        if (refusal != 0) {
            return fail(refusal);
        }
        if (!sheets[sheet].has(i)) {
            return fail(BEYOND);
        }
        sheets[sheet].set(i, lowest(v, sheetBits[sheet]));
        return 1;
    }

    public int move(int sheet, int i, int other, int j, int n) {
        if (!isSheet(sheet) || !isSheet(other)) {
            return fail(BEYOND);
        }
        if (sheetBits[sheet] == 0 || sheetBits[other] == 0) {
            return fail(NONE);
        }
        if (sheetBits[sheet] != sheetBits[other]) {
            return fail(KIND);
        }
        if (!sheets[sheet].hasRun(i, n) || !sheets[other].hasRun(j, n)) {
            return fail(BEYOND);
        }
        sheets[other].paste(j, sheets[sheet], i, n);
        return n;
    }

    public int rooms(int sheet) {
        int refusal = refusesSheet(sheet);
        if (refusal != 0) {
            return fail(refusal);
        }
        Row row = sheets[sheet];
        for (int yard = 0; yard < row.size; yard++) {
            int v = row.at(yard);
            if (now.refusesRoom(yard, v) != 0) {
                return yard;
            }
            now.space[yard] = v;
        }
        return row.size;
    }

    public int judge(int sheet) {
        int refusal = refusesSheet(sheet);
        if (refusal != 0) {
            return fail(refusal);
        }
        Row row = sheets[sheet];
        int both = Math.min(row.size, now.company);
        for (int i = 0; i < both; i++) {
            if (row.at(i) != now.goers[i].yard) {
                return i;
            }
        }
        return row.size == now.company ? -1 : both;
    }

    public int image() {
        kept.copyFrom(now);
        images++;
        return images;
    }

    public int restore() {
        if (images == 0) {
            return fail(NONE);
        }
        now.copyFrom(kept);
        return now.minute;
    }

    public int tell(int v) {
        return now.waiting.add(v) ? now.waiting.size : fail(FULL);
    }

    public int check() {
        int wrong = 0;
        ahead.copyFrom(now);
        for (int i = 0; i < now.waiting.size && wrong == 0; i++) {
            ahead.passMinute(false);
            if (now.waiting.at(i) != ahead.howMany(OVER)) {
                wrong = 1 + i;
            }
        }
        now.waiting.clear();
        return wrong;
    }

    public int count(int what) {
        switch (what) {
            case 0:
                return now.company;
            case 1:
                return now.howManyLedges();
            case 2:
                return now.minute;
            case 3:
                return now.howMany(ON);
            case 4:
                return now.howMany(OVER);
            case 5:
                return now.takings;
            case 6:
                return now.backs;
            case 7:
                return now.tape.size;
            case 8:
                return now.waiting.size;
            case 9:
                return bodies.size;
            case 10:
                return now.z;
            default:
                return fail(BEYOND);
        }
    }

    public int told(int k) {
        return k < 1 || k > ERRORS ? fail(BEYOND) : errors[k];
    }

    // ---- what the acts ask

    /** Every ERROR is answered through here: by its value alone it can't be told from a RANK or a z. */
    private int fail(int error) {
        int k = LOW - error;
        if (k >= 1 && k <= ERRORS) {
            errors[k]++;
        }
        return error;
    }

    private int orNone(int n) {
        return n < 0 ? fail(NONE) : n;
    }

    private boolean isGoer(int goer) {
        return goer >= 0 && goer < now.company;
    }

    /** The ERROR with which so many MINUTES are refused; 0: they aren't. */
    private int refusesMinutes(int n) {
        if (n < 1 || n > MOST_AHEAD) {
            return BEYOND;
        }
        return now.minute + n > MOST_MINUTE ? STATE : 0;
    }

    /** The ERROR with which a SHEET is refused that isn't there; 0: it is. */
    private int refusesSheet(int sheet) {
        if (!isSheet(sheet)) {
            return BEYOND;
        }
        return sheetBits[sheet] == 0 ? NONE : 0;
    }

    private static boolean isYard(int yard) {
        return yard >= 0 && yard < YARDS;
    }

    private static boolean isStart(int v) {
        return v >= 0 && v <= MOST_START;
    }

    private static boolean isKindAndNumber(int km) {
        return km >= 0 && km < KINDS * 10;
    }

    private static boolean isUse(int use) {
        return use >= 0 && use < USES;
    }

    private static boolean isSheet(int sheet) {
        return sheet >= 0 && sheet < SHEETS;
    }

    private static boolean isWidth(int bits) {
        return bits == 0 || bits == 8 || bits == 16 || bits == 32;
    }

    private static boolean isUnder(int kind, int above) {
        int k = kind;
        for (int i = 0; i < KINDS && k >= 0 && k < KINDS; i++) {
            if (k == above) {
                return true;
            }
            k = ABOVE[k];
        }
        return false;
    }

    private static int lowest(int v, int bits) {
        if (bits == 8) {
            return (byte) v;
        }
        return bits == 16 ? (short) v : v;
    }

    /** Numbers in a row, up to a most that never changes; a place that isn't there reads as 0. */
    private static final class Row {
        private final int[] items;
        private int size;

        Row(int most) {
            items = new int[Math.max(most, 0)];
        }

        boolean has(int i) {
            return i >= 0 && i < size;
        }

        boolean hasRun(int i, int n) {
            return i >= 0 && n >= 0 && n <= size && i <= size - n;
        }

        int at(int i) {
            return i >= 0 && i < size ? items[i] : 0;
        }

        void set(int i, int v) {
            if (has(i)) {
                items[i] = v;
            }
        }

        boolean add(int v) {
            if (size >= items.length) {
                return false;
            }
            items[size] = v;
            size++;
            return true;
        }

        int last() {
            return size > 0 ? items[size - 1] : 0;
        }

        int removeLast() {
            if (size == 0) {
                return 0;
            }
            size--;
            return items[size];
        }

        void clear() {
            size = 0;
        }

        void zeros(int n) {
            size = Math.max(0, Math.min(n, items.length));
            for (int i = 0; i < size; i++) {
                items[i] = 0;
            }
        }

        void paste(int j, Row other, int i, int n) {
            if (hasRun(j, n) && other.hasRun(i, n)) {
                System.arraycopy(other.items, i, items, j, n);
            }
        }

        void copyFrom(Row other) {
            size = Math.min(other.size, items.length);
            System.arraycopy(other.items, 0, items, 0, size);
        }
    }

    /**
     * The TEXT of a USE, held as code that is worked out from left to right: a number is itself,
     * a NAME is -1, -2, -3, an operator is less than that, behind what it works on.
     */
    private static final class Text {
        private static final int FIRST_NAME = -1;
        private static final int LAST_NAME = -3;
        private static final int COMPARES = 3;
        private static final int BINARY = 5;

        private final int least;
        private final int most;
        private final Row code;
        private final Row values;
        private final Row pending;
        private String names;
        private int open;
        private int digits;
        private boolean wantsOperand;

        /** Without a TEXT the USE gives its first NAME. */
        Text(int least, int most) {
            this.least = least;
            this.most = most;
            code = new Row(TAPE);
            values = new Row(TAPE);
            pending = new Row(TAPE);
            names = "";
            code.add(FIRST_NAME);
        }

        void copyFrom(Text other) {
            code.copyFrom(other.code);
        }

        int value(int a, int b, int c) {
            values.clear();
            for (int i = 0; i < code.size; i++) {
                int op = code.at(i);
                if (op >= 0) {
                    values.add(op);
                } else if (op >= LAST_NAME) {
                    values.add(op == FIRST_NAME ? a : op == LAST_NAME ? c : b);
                } else if (op == -'!') {
                    values.add(values.removeLast() == 0 ? 1 : 0);
                } else {
                    int right = values.removeLast();
                    int left = values.removeLast();
                    values.add(result(-op, left, right));
                }
            }
            return Math.max(least, Math.min(most, values.last()));
        }

        private static int result(int op, int left, int right) {
            switch (op) {
                case '|':
                    return left != 0 || right != 0 ? 1 : 0;
                case '&':
                    return left != 0 && right != 0 ? 1 : 0;
                case '<':
                    return left < right ? 1 : 0;
                case '=':
                    return left == right ? 1 : 0;
                case '>':
                    return left > right ? 1 : 0;
                case '+':
                    return left + right;
                case '-':
                    return left - right;
                case '*':
                    return left * right;
                case '/':
                    return right == 0 ? 0 : left / right;
                case '%':
                    return right == 0 ? 0 : left % right;
                default:
                    return 0;
            }
        }

        /** Reads a TEXT to be this one: its FAULT, with which this one is of no use; -1: none. */
        int faultOf(Row tape, String namesOfUse) {
            names = namesOfUse;
            code.clear();
            pending.clear();
            open = 0;
            digits = 0;
            wantsOperand = true;
            for (int i = 0; i < tape.size; i++) {
                int c = tape.at(i);
                if (!(wantsOperand ? beginsOperand(c) : goesOn(c))) {
                    return i;
                }
            }
            if (wantsOperand) {
                return tape.size;
            }
            release(1);
            return pending.size == 0 ? -1 : tape.size;
        }

        private boolean beginsOperand(int c) {
            if (c == '!' || c == '(') {
                open++;
                return open <= MOST_OPEN && pending.add(c);
            }
            int name = names.indexOf((char) c);
            if (isDigit(c)) {
                code.add(c - '0');
                digits = 1;
            } else if (name >= 0) {
                code.add(FIRST_NAME - name);
                digits = 0;
            } else {
                return false;
            }
            wantsOperand = false;
            return true;
        }

        private boolean goesOn(int c) {
            if (isDigit(c)) {
                return addsDigit(c - '0');
            }
            if (c == ')') {
                return closes();
            }
            int level = levelOf(c);
            if (level < 1 || level > BINARY) {
                return false;
            }
            release(level == COMPARES ? level + 1 : level);
            if (level == COMPARES && levelOf(pending.last()) == COMPARES) {
                return false;
            }
            wantsOperand = true;
            return pending.add(c);
        }

        private boolean addsDigit(int digit) {
            if (digits < 1 || digits >= MOST_DIGITS) {
                return false;
            }
            code.set(code.size - 1, code.last() * 10 + digit);
            digits++;
            return true;
        }

        private boolean closes() {
            release(1);
            if (pending.last() != '(') {
                return false;
            }
            pending.removeLast();
            open--;
            digits = 0;
            return true;
        }

        /** What waits for its right side and binds at least as strongly has it now. */
        private void release(int level) {
            for (int i = pending.size; i > 0 && levelOf(pending.last()) >= level; i--) {
                int c = pending.removeLast();
                if (c == '!') {
                    open--;
                }
                code.add(-c);
            }
        }

        private static boolean isDigit(int c) {
            return c >= '0' && c <= '9';
        }

        /** How strongly an operator binds; 0: no operator (a bracket that is open, too). */
        private static int levelOf(int c) {
            switch (c) {
                case '|':
                    return 1;
                case '&':
                    return 2;
                case '<':
                case '=':
                case '>':
                    return COMPARES;
                case '+':
                case '-':
                    return 4;
                case '*':
                case '/':
                case '%':
                    return BINARY;
                case '!':
                    return 6;
                default:
                    return 0;
            }
        }
    }

    /** The KIND GOER, the topmost one: what it is by its number m, and its VOICES. */
    private static class Walker {
        int paceOf(int m) {
            return 1;
        }

        int loadOf(int m) {
            return m;
        }

        boolean canBack(int m) {
            return true;
        }

        boolean hears() {
            return true;
        }

        int goes(Goer g, Row bodies, int x) {
            bodies.add(10);
            return x + g.number;
        }

        int blows(Goer g, Row bodies, int x) {
            bodies.add(11);
            return goes(g, bodies, x) * 2;
        }

        int yields(Goer g, Row bodies, int x) {
            bodies.add(12);
            return x - g.m;
        }

        int tells(Goer g, Row bodies, int x) {
            bodies.add(13);
            return blows(g, bodies, x) ^ yields(g, bodies, x);
        }
    }

    private static class Coffin extends Walker {
        int paceOf(int m) {
            return 2;
        }

        int loadOf(int m) {
            return 20;
        }

        boolean canBack(int m) {
            return false;
        }

        int blows(Goer g, Row bodies, int x) {
            bodies.add(20);
            return super.blows(g, bodies, x) - yields(g, bodies, 1);
        }
    }

    private static class Goat extends Walker {
        int loadOf(int m) {
            return Math.max(0, super.loadOf(m) - 3);
        }

        int goes(Goer g, Row bodies, int x) {
            bodies.add(30);
            return super.goes(g, bodies, x) * 3;
        }
    }

    private static class Wedding extends Walker {
        int loadOf(int m) {
            return super.loadOf(m) + 9;
        }

        boolean canBack(int m) {
            return m % 2 != 0;
        }

        int yields(Goer g, Row bodies, int x) {
            bodies.add(40);
            return -super.yields(g, bodies, x);
        }
    }

    private static final class Sleeping extends Coffin {
        int paceOf(int m) {
            return super.paceOf(m) + 1;
        }

        boolean hears() {
            return false;
        }

        int blows(Goer g, Row bodies, int x) {
            bodies.add(50);
            return super.blows(g, bodies, x + 1);
        }
    }

    private static final class Herd extends Goat {
        int paceOf(int m) {
            return super.paceOf(m) + m % 3;
        }

        int loadOf(int m) {
            return super.loadOf(m) * 2;
        }

        int tells(Goer g, Row bodies, int x) {
            bodies.add(60);
            return super.tells(g, bodies, x) - goes(g, bodies, 2);
        }
    }

    private static final class Blind extends Wedding {
        int loadOf(int m) {
            return super.loadOf(m) - m;
        }

        boolean hears() {
            return false;
        }

        int yields(Goer g, Row bodies, int x) {
            bodies.add(70);
            return super.yields(g, bodies, x) ^ g.number;
        }

        int tells(Goer g, Row bodies, int x) {
            bodies.add(71);
            return blows(g, bodies, x) - super.tells(g, bodies, x);
        }
    }

    /** A GOER; what its KIND and m make of it is worked out once, not each MINUTE. */
    private static final class Goer {
        private final int number;
        private int kind;
        private int m;
        private int from;
        private int to;
        private int start;
        private int how;
        private int yard;
        private int wait;
        private boolean backs;
        private int times;
        private boolean atFault;
        private int pace;
        private int load;
        private boolean canBack;
        private boolean hears;

        Goer(int number) {
            this.number = number;
            yard = -1;
        }

        void turnInto(Walker walker, int newKind, int newM) {
            kind = newKind;
            m = newM;
            pace = walker.paceOf(m);
            load = walker.loadOf(m);
            canBack = walker.canBack(m);
            hears = walker.hears();
        }

        void sendHome() {
            leave(HOME);
            times = 0;
        }

        void leave(int newHow) {
            how = newHow;
            yard = -1;
            wait = 0;
            backs = false;
            atFault = false;
        }

        void enter() {
            how = ON;
            yard = from;
            wait = 0;
            backs = false;
        }

        int way() {
            return to > from ? 1 : -1;
        }

        boolean comesAgainst(Goer other) {
            return how == ON && !backs && way() != other.way();
        }

        /** What ofGoer() tells, but for the RANK. */
        int fact(int what) {
            switch (what) {
                case 0:
                    return kind;
                case 1:
                    return m;
                case 2:
                    return from;
                case 3:
                    return to;
                case 4:
                    return start;
                case 5:
                    return how;
                case 6:
                    return yard;
                case 7:
                    return wait;
                case 8:
                    return backs ? 1 : 0;
                case 9:
                    return times;
                case 10:
                    return pace;
                case 11:
                    return load;
                case 13:
                    return canBack ? 1 : 0;
                default:
                    return hears ? 1 : 0;
            }
        }

        void copyFrom(Goer other) {
            kind = other.kind;
            m = other.m;
            from = other.from;
            to = other.to;
            start = other.start;
            how = other.how;
            yard = other.yard;
            wait = other.wait;
            backs = other.backs;
            times = other.times;
            atFault = other.atFault;
            pace = other.pace;
            load = other.load;
            canBack = other.canBack;
            hears = other.hears;
        }
    }

    /** All that an IMAGE keeps: as it is now, as it was kept, or as it would be AHEAD. */
    private static final class Cliff {
        private final int[] space;
        private final Goer[] goers;
        private int company;
        private int minute;
        private int takings;
        private int backs;
        private int z;
        private final Row tape;
        private final Row waiting;
        private final Text[] laws;

        Cliff() {
            space = new int[YARDS];
            for (int i = 0; i < YARDS; i++) {
                space[i] = 1;
            }
            goers = new Goer[MOST_GOERS];
            for (int i = 0; i < MOST_GOERS; i++) {
                goers[i] = new Goer(i);
            }
            z = 1;
            tape = new Row(TAPE);
            waiting = new Row(WAITING);
            laws = new Text[] {
                new Text(LEAST_INT, MOST_INT), new Text(-MOST_TOLL, MOST_TOLL)
            };
        }

        void copyFrom(Cliff other) {
            System.arraycopy(other.space, 0, space, 0, YARDS);
            company = other.company;
            for (int i = 0; i < company; i++) {
                goers[i].copyFrom(other.goers[i]);
            }
            minute = other.minute;
            takings = other.takings;
            backs = other.backs;
            z = other.z;
            tape.copyFrom(other.tape);
            waiting.copyFrom(other.waiting);
            for (int i = 0; i < USES; i++) {
                laws[i].copyFrom(other.laws[i]);
            }
        }

        boolean isLedge(int yard) {
            return isYard(yard) && space[yard] > 1;
        }

        int howManyLedges() {
            return ledgesBefore(YARDS);
        }

        private int ledgesBefore(int yard) {
            int n = 0;
            for (int i = 0; i < yard && i < YARDS; i++) {
                if (space[i] > 1) {
                    n++;
                }
            }
            return n;
        }

        /** The number of the LEDGE at a YARD; -1: none. */
        int ledgeAt(int yard) {
            return isLedge(yard) ? ledgesBefore(yard) : -1;
        }

        /** The YARD of a LEDGE; -1: no such LEDGE. */
        int yardOf(int ledge) {
            for (int yard = 0; yard < YARDS; yard++) {
                if (isLedge(yard) && ledgesBefore(yard) == ledge) {
                    return yard;
                }
            }
            return -1;
        }

        int crowdAt(int yard) {
            int n = 0;
            for (int i = 0; i < company; i++) {
                if (goers[i].how == ON && goers[i].yard == yard) {
                    n++;
                }
            }
            return n;
        }

        int howMany(int how) {
            int n = 0;
            for (int i = 0; i < company; i++) {
                if (goers[i].how == how) {
                    n++;
                }
            }
            return n;
        }

        /** The ERROR with which a ROOM of v is refused; 0: it isn't. */
        int refusesRoom(int yard, int v) {
            if (!isYard(yard) || v < 1 || v > MOST_ROOM) {
                return BEYOND;
            }
            if (crowdAt(yard) > v) {
                return STATE;
            }
            return v > 1 && !isLedge(yard) && howManyLedges() >= MOST_LEDGES ? FULL : 0;
        }

        int rankOf(Goer g) {
            return laws[RANK].value(g.load, g.number, g.times);
        }

        int draw() {
            z = z * 1103515245 + 12345;
            return z >>> 8;
        }

        /** A MINUTE goes by: whether any GOER isn't as it was (where it is, WAIT, BACK). */
        boolean passMinute(boolean fog) {
            minute++;
            boolean changed = false;
            for (int i = 0; i < company; i++) {
                Goer g = goers[i];
                if (g.how == ON) {
                    changed |= walk(g, fog);
                } else if (g.how == HOME && g.start <= minute && isFree(g.from)) {
                    g.enter();
                    changed = true;
                }
            }
            return changed;
        }

        private boolean walk(Goer g, boolean fog) {
            if (g.wait > 0) {
                g.wait--;
                return true;
            }
            if (g.yard == g.to && !g.backs) {
                g.leave(OVER);
                return true;
            }
            boolean atLedge = isLedge(g.yard);
            if (atLedge && !g.backs && g.hears && !fog && hearsSomebody(g)) {
                return false;
            }
            int next = g.backs ? g.yard - g.way() : g.yard + g.way();
            if (!isYard(next)) {
                return false;
            }
            if (isFree(next)) {
                step(g, next);
                return true;
            }
            return !g.backs && !atLedge && meet(g, next);
        }

        private boolean isFree(int yard) {
            return isYard(yard) && crowdAt(yard) < space[yard];
        }

        private void step(Goer g, int yard) {
            g.yard = yard;
            g.wait = g.pace - 1;
            if (isLedge(yard)) {
                g.backs = false;
                int toll = laws[TOLL].value(g.load, ledgeAt(yard), minute);
                takings = Math.max(-MOST_TAKINGS, Math.min(MOST_TAKINGS, takings + toll));
            }
        }

        /** Whether one comes against a GOER between the LEDGE where it stands and the next in its way. */
        private boolean hearsSomebody(Goer g) {
            int way = g.way();
            int clear = 1;
            while (clear < YARDS && isYard(g.yard + clear * way) && !isLedge(g.yard + clear * way)) {
                clear++;
            }
            for (int i = 0; i < company; i++) {
                int apart = (goers[i].yard - g.yard) * way;
                if (goers[i].comesAgainst(g) && apart > 0 && apart < clear) {
                    return true;
                }
            }
            return false;
        }

        /** A GOER finds the next YARD full: whether it begins to BACK. */
        private boolean meet(Goer g, int yard) {
            for (int i = 0; i < company; i++) {
                Goer other = goers[i];
                if (other.yard == yard && other.comesAgainst(g)) {
                    return givesWay(g, rankOf(g), other, rankOf(other));
                }
            }
            return false;
        }

        private boolean givesWay(Goer g, int rank, Goer other, int otherRank) {
            if (rank > otherRank || rank == otherRank && g.number < other.number) {
                return false;
            }
            if (!g.canBack) {
                g.atFault = true;
                return false;
            }
            g.backs = true;
            g.times++;
            backs = Math.min(MOST_BACKS, backs + 1);
            return true;
        }

        private boolean allOver() {
            return howMany(OVER) == company;
        }

        private boolean someStartLater() {
            for (int i = 0; i < company; i++) {
                if (goers[i].how == HOME && goers[i].start > minute) {
                    return true;
                }
            }
            return false;
        }

        /** Goes on till all are OVER: behind how many MINUTES; -1: not by 300. */
        int runTillOver() {
            for (int n = 0; n <= MOST_AHEAD; n++) {
                if (allOver()) {
                    return n;
                }
                // a MINUTE without a change is followed by its like, unless a START is still to come
                if (!passMinute(false) && !someStartLater()) {
                    return -1;
                }
            }
            return -1;
        }

        /** Goes on till all are stuck: behind how many MINUTES; -1: not by 300. */
        int runTillStuck() {
            for (int n = 0; n <= MOST_AHEAD; n++) {
                boolean allSet = !allOver() && !someStartLater();
                if (!passMinute(false) && allSet) {
                    return n;
                }
            }
            return -1;
        }
    }
}
