import java.util.Random;

/** Runs of drawn calls, each answered by the class and by the Model; seeds are fixed. */
final class ModelTest {
    /** An object is used for 512 calls; a draw takes some 20 at most, and all that is looked at in the end 165. */
    private static final int CALLS = 320;
    private static final int[] answered = new int[40];
    private static final int[] refused = new int[40];
    private static final int[] FAR = {
        Integer.MIN_VALUE, Integer.MIN_VALUE + 1, Integer.MAX_VALUE, Integer.MAX_VALUE - 1, -1000000001, 1 << 30, 65536,
        -65536, 1000, 10000, -40, 256,
    };
    private static int calls;

    private ModelTest() {
    }

    public static void main(String[] args) {
        int runs = args.length > 0 ? Integer.parseInt(args[0]) : 1500;
        int first = args.length > 1 ? Integer.parseInt(args[1]) : 0;
        int[] saw = new int[8];
        for (int seed = first; seed < first + runs; seed++) {
            Model m = run(seed);
            int[] now = {m.sawBack, m.sawFault, m.sawHear, m.sawFog, m.sawToll, m.sawStuck, m.sawPlan, m.sawOldBack};
            for (int i = 0; i < now.length; i++) {
                saw[i] += now[i];
            }
        }
        System.out.println("seen: " + java.util.Arrays.toString(saw));
        for (int n : saw) {
            Due.due("each rare thing was seen", n > runs / 4 ? 1 : 0, 1);
        }
        for (int i = 0; i < NAMES.length; i++) {
            Due.due(NAMES[i] + " was answered without an ERROR", answered[i] > 0 ? 1 : 0, 1);
            Due.due(NAMES[i] + " was refused", refused[i] > 0 || NEVER.indexOf(NAMES[i]) >= 0 ? 1 : 0, 1);
        }
        texts(runs * 20, first);
        Due.end("ModelTest");
    }

    private static final String[] NAMES = {
        "room", "ofYard", "goer", "ofGoer", "become", "as", "start", "home", "feed", "text", "law", "minutes", "loose",
        "then", "overBy", "stuckBy", "bestStart", "spare", "without", "newOne", "faults", "seed", "voice", "trace",
        "sheet", "put", "move", "rooms", "judge", "image", "restore", "tell", "check", "count", "told",
    };
    private static final String NEVER = "faults seed image check";

    private static Model run(int seed) {
        Random r = new Random(seed);
        NineLedges x = new NineLedges();
        Model m = new Model();
        int plans = 6;
        int style = r.nextInt(4);
        calls = 0;
        prepare(r, x, m, seed, style);
        int end = r.nextInt(4) == 0 ? r.nextInt(CALLS) : CALLS;
        while (calls < end) {
            int act = r.nextInt(NAMES.length);
            if (act >= 16 && act <= 19) {
                if (plans == 0) {
                    continue;
                }
                plans--;
            }
            call(r, x, m, seed, act, style);
        }
        all(seed, x, m);
        Due.due("seed " + seed + ": 512 calls at most", calls <= 512);
        return m;
    }

    private static void prepare(Random r, NineLedges x, Model m, int seed, int style) {
        for (int i = r.nextInt(7); i > 0; i--) {
            int yard = r.nextInt(24);
            int v = 1 + r.nextInt(3);
            same(seed, "room", x.room(yard, v), m.room(yard, v));
        }
        for (int i = 1 + r.nextInt(8); i > 0; i--) {
            call(r, x, m, seed, 2, style);
        }
        for (int use = 0; use < 2; use++) {
            if (r.nextInt(2) == 0) {
                writeText(r, x, m, seed, use);
            }
        }
        if (r.nextInt(20) == 0) {
            for (int i = 0; i < 33; i++) {
                same(seed, "minutes", x.minutes(300), m.minutes(300));
            }
        }
    }

    private static void same(int seed, String call, int got, int want) {
        calls++;
        Due.due("seed " + seed + ": " + call, got, want);
    }

    private static int edge(Random r, int least, int most) {
        int k = r.nextInt(24);
        if (k == 0) {
            return least - 1;
        }
        if (k == 1) {
            return most + 1;
        }
        if (k == 2 && r.nextInt(3) == 0) {
            return FAR[r.nextInt(FAR.length)];
        }
        return least + r.nextInt(most - least + 1);
    }

    private static int few(Random r) {
        return r.nextInt(10) == 0 ? edge(r, 1, 300) : 1 + r.nextInt(r.nextInt(3) == 0 ? 20 : 4);
    }

    private static int someStart(Random r, Model m) {
        return r.nextInt(8) == 0 ? edge(r, 0, 999) : Math.min(999, m.w.minute + r.nextInt(25));
    }

    private static void call(Random r, NineLedges x, Model m, int seed, int act, int style) {
        int goer = edge(r, 0, Math.max(0, m.w.goers.size() - 1));
        int yard = edge(r, 0, 23);
        int sheet = edge(r, 0, 3);
        int[] before = m.told.clone();
        switch (act) {
            case 0: {
                int v = r.nextInt(2) == 0 ? 1 : edge(r, 1, 5);
                same(seed, NAMES[act], x.room(yard, v), m.room(yard, v));
                break;
            }
            case 1: {
                int what = edge(r, 0, 2);
                same(seed, NAMES[act], x.ofYard(yard, what), m.ofYard(yard, what));
                break;
            }
            case 2: {
                int km = style == 0 ? edge(r, 0, 69) : style == 1 ? r.nextInt(10) : r.nextInt(70);
                int to = edge(r, 0, 23);
                int start = someStart(r, m);
                same(seed, NAMES[act], x.goer(km, yard, to, start), m.goer(km, yard, to, start));
                break;
            }
            case 3: {
                int what = edge(r, 0, 14);
                same(seed, NAMES[act], x.ofGoer(goer, what), m.ofGoer(goer, what));
                break;
            }
            case 4: {
                int km = edge(r, 0, 69);
                same(seed, NAMES[act], x.become(goer, km), m.become(goer, km));
                break;
            }
            case 5: {
                int kind = edge(r, 0, 6);
                same(seed, NAMES[act], x.as(goer, kind), m.as(goer, kind));
                break;
            }
            case 6: {
                int v = someStart(r, m);
                same(seed, NAMES[act], x.start(goer, v), m.start(goer, v));
                break;
            }
            case 7:
                same(seed, NAMES[act], x.home(goer), m.home(goer));
                break;
            case 8: {
                long word = r.nextLong();
                int n = edge(r, 1, 8);
                same(seed, NAMES[act], x.feed(word, n), m.feed(word, n));
                break;
            }
            case 9:
                if (r.nextInt(3) == 0) {
                    int use = edge(r, 0, 1);
                    same(seed, NAMES[act], x.text(use), m.text(use));
                } else {
                    writeText(r, x, m, seed, r.nextInt(2));
                }
                break;
            case 10: {
                int use = edge(r, 0, 1);
                int a = number(r);
                int b = number(r);
                int c = number(r);
                same(seed, NAMES[act], x.law(use, a, b, c), m.law(use, a, b, c));
                break;
            }
            case 11: {
                int n = few(r);
                same(seed, NAMES[act], x.minutes(n), m.minutes(n));
                break;
            }
            case 12: {
                int n = few(r);
                same(seed, NAMES[act], x.loose(n), m.loose(n));
                break;
            }
            case 13: {
                int n = edge(r, 0, 300);
                int what = edge(r, 5, 9);
                same(seed, NAMES[act], x.then(n, goer, what), m.then(n, goer, what));
                break;
            }
            case 14:
                same(seed, NAMES[act], x.overBy(), m.overBy());
                break;
            case 15:
                same(seed, NAMES[act], x.stuckBy(), m.stuckBy());
                break;
            case 16: {
                int what = edge(r, 0, 2);
                same(seed, NAMES[act], x.bestStart(goer, what), m.bestStart(goer, what));
                break;
            }
            case 17:
                same(seed, NAMES[act], x.spare(goer), m.spare(goer));
                break;
            case 18: {
                int ledge = edge(r, 0, 4);
                same(seed, NAMES[act], x.without(ledge), m.without(ledge));
                break;
            }
            case 19: {
                int what = edge(r, 0, 1);
                same(seed, NAMES[act], x.newOne(what), m.newOne(what));
                break;
            }
            case 20:
                same(seed, NAMES[act], x.faults(), m.faults());
                break;
            case 21: {
                int v = number(r);
                same(seed, NAMES[act], x.seed(v), m.seed(v));
                break;
            }
            case 22: {
                int what = edge(r, 0, 3);
                int v = number(r);
                same(seed, NAMES[act], x.voice(goer, what, v), m.voice(goer, what, v));
                break;
            }
            case 23: {
                int i = edge(r, 0, 8);
                same(seed, NAMES[act], x.trace(i), m.trace(i));
                break;
            }
            case 24: {
                int bits = r.nextInt(20) == 0 ? r.nextInt(40) : r.nextInt(6) == 0 ? 0 : 8 << r.nextInt(3);
                int n = r.nextInt(3) == 0 ? m.w.goers.size() : edge(r, 0, 40);
                same(seed, NAMES[act], x.sheet(sheet, bits, n), m.sheet(sheet, bits, n));
                break;
            }
            case 25:
                for (int k = 0; k < 6; k++) {
                    int i = edge(r, 0, r.nextInt(3) == 0 ? 39 : 6);
                    int v = r.nextInt(4) == 0 ? number(r) : 1 + r.nextInt(2);
                    same(seed, NAMES[act], x.put(sheet, i, v), m.put(sheet, i, v));
                }
                break;
            case 26: {
                int other = edge(r, 0, 3);
                int i = edge(r, 0, 10);
                int j = edge(r, 0, 10);
                int n = edge(r, 0, 12);
                same(seed, NAMES[act], x.move(sheet, i, other, j, n), m.move(sheet, i, other, j, n));
                break;
            }
            case 27:
                same(seed, NAMES[act], x.rooms(sheet), m.rooms(sheet));
                break;
            case 28:
                for (int i = 0; i < m.w.goers.size() && r.nextInt(9) > 0; i++) {
                    int v = m.ofGoer(i, 6);
                    same(seed, NAMES[act], x.put(sheet, i, v), m.put(sheet, i, v));
                }
                same(seed, NAMES[act], x.judge(sheet), m.judge(sheet));
                break;
            case 29:
                if (r.nextInt(4) == 0) {
                    same(seed, NAMES[act], x.image(), m.image());
                    answered[act]++;
                }
                break;
            case 30:
                if (r.nextInt(4) == 0) {
                    same(seed, NAMES[act], x.restore(), m.restore());
                }
                break;
            case 31:
                for (int k = r.nextInt(6); k >= 0; k--) {
                    int v = r.nextInt(8) == 0 ? number(r) : m.count(4);
                    same(seed, NAMES[act], x.tell(v), m.tell(v));
                }
                break;
            case 32:
                same(seed, NAMES[act], x.check(), m.check());
                break;
            case 33: {
                int what = edge(r, 0, 10);
                same(seed, NAMES[act], x.count(what), m.count(what));
                break;
            }
            default: {
                int k = edge(r, 1, 5);
                same(seed, NAMES[act], x.told(k), m.told(k));
                break;
            }
        }
        boolean error = false;
        for (int k = 1; k <= 5; k++) {
            error |= m.told[k] != before[k];
        }
        if (error) {
            refused[act]++;
        } else {
            answered[act]++;
        }
    }

    /** What can be seen of both is the same in the end. */
    private static void all(int seed, NineLedges x, Model m) {
        String behind = "in the end";
        for (int what = 0; what <= 10; what++) {
            same(seed, behind + " count " + what, x.count(what), m.count(what));
        }
        for (int goer = 0; goer < m.w.goers.size(); goer++) {
            for (int what = 0; what <= 14; what++) {
                same(seed, behind + " ofGoer " + what, x.ofGoer(goer, what), m.ofGoer(goer, what));
            }
        }
        for (int yard = 0; yard < 24; yard++) {
            same(seed, behind + " ofYard", x.ofYard(yard, 0), m.ofYard(yard, 0));
        }
        for (int k = 1; k <= 5; k++) {
            same(seed, behind + " told " + k, x.told(k), m.told(k));
        }
        same(seed, behind + " faults", x.faults(), m.faults());
    }

    private static int number(Random r) {
        switch (r.nextInt(5)) {
            case 0:
                return r.nextInt();
            case 1:
                return r.nextInt(2) == 0 ? Integer.MIN_VALUE : Integer.MAX_VALUE;
            default:
                return r.nextInt(25) - 3;
        }
    }

    private static void writeText(Random r, NineLedges x, Model m, int seed, int use) {
        while (m.w.tape.length() > 0) {
            same(seed, "text", x.text(use), m.text(use));
        }
        String s = drawnText(r, use == 0 ? "lnb" : "lkt", 3);
        if (s.length() > 50) {
            s = s.substring(0, 50);
        }
        for (int i = 0; i < s.length(); i += 8) {
            int n = Math.min(8, s.length() - i);
            long word = r.nextLong();
            for (int k = n - 1; k >= 0; k--) {
                word = word << 8 | s.charAt(i + k);
            }
            same(seed, "feed", x.feed(word, n), m.feed(word, n));
        }
        same(seed, "text " + s, x.text(use), m.text(use));
    }

    private static String drawnText(Random r, String names, int depth) {
        int k = r.nextInt(10);
        if (depth == 0 || k < 3) {
            return k % 2 == 0 ? "" + r.nextInt(k == 0 ? 10000 : 9) : "" + names.charAt(r.nextInt(3));
        }
        if (k == 3) {
            return "!" + drawnText(r, names, depth - 1);
        }
        if (k < 6) {
            return "(" + drawnText(r, names, depth - 1) + ")";
        }
        return drawnText(r, names, depth - 1) + "|&<=>+-*/%".charAt(r.nextInt(10)) + drawnText(r, names, depth - 1);
    }

    /** TEXTS alone: drawn ones, some with a byte changed, and rows of drawn signs. */
    private static void texts(int n, int seed) {
        Random r = new Random(seed);
        String signs = "lnbkt0123456789|&<=>+-*/%!!(())()(1l1l1l ^";
        NineLedges x = new NineLedges();
        int right = 0;
        for (int i = 0; i < n; i++) {
            x = i % 50 == 0 ? new NineLedges() : x;
            int use = r.nextInt(2);
            StringBuilder s = new StringBuilder();
            if (r.nextInt(3) > 0) {
                s.append(drawnText(r, use == 0 ? "lnb" : "lkt", 6));
            } else {
                for (int k = r.nextInt(12); k >= 0; k--) {
                    s.append(signs.charAt(r.nextInt(signs.length())));
                }
            }
            s.setLength(Math.min(50, s.length()));
            if (r.nextInt(3) == 0 && s.length() > 0) {
                s.setCharAt(r.nextInt(s.length()), signs.charAt(r.nextInt(signs.length())));
            }
            int fault = Model.fault(s.toString(), Model.NAMES[use]);
            Due.due("TEXT " + s, Due.text(x, use, s.toString()), fault < 0 ? 1 : -10 - fault);
            if (fault < 0) {
                right++;
                Model.World w = new Model.World();
                w.texts[use] = s.toString();
                int a = number(r);
                int b = number(r);
                int c = number(r);
                Due.due("law of " + s, x.law(use, a, b, c), Model.give(w, use, a, b, c));
            }
        }
        Due.due("TEXTS of both sorts", right > n / 5 && right < n * 4 / 5 ? 1 : 0, 1);
    }
}
