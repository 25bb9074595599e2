import java.util.ArrayList;
import java.util.List;

/**
 * The document once more, as slow and as near to its words as can be, for ModelTest to compare with.
 * It shares nothing with the class: TEXTS are worked out from their bytes each time, and what would be
 * is found by copies that go on a MINUTE at a time.
 */
final class Model {
    static final int BEYOND = -1000000001;
    static final int NONE = -1000000002;
    static final int STATE = -1000000003;
    static final int FULL = -1000000004;
    static final int KIND = -1000000005;

    static final class G implements Cloneable {
        int kind, m, from, to, start, how, yard = -1, wait, times;
        boolean back, fault;

        G copy() {
            try {
                return (G) clone();
            } catch (CloneNotSupportedException e) {
                throw new IllegalStateException(e);
            }
        }

        boolean up() {
            return to > from;
        }
    }

    static final class World {
        int[] room = new int[24];
        List<G> goers = new ArrayList<>();
        int minute, takings, backs, z = 1;
        String tape = "";
        String[] texts = {"l", "l"};
        List<Integer> waiting = new ArrayList<>();

        World copy() {
            World w = new World();
            w.room = room.clone();
            for (G g : goers) {
                w.goers.add(g.copy());
            }
            w.minute = minute;
            w.takings = takings;
            w.backs = backs;
            w.z = z;
            w.tape = tape;
            w.texts = texts.clone();
            w.waiting = new ArrayList<>(waiting);
            return w;
        }
    }

    World w = new World();
    World image;
    int images;
    final int[] told = new int[6];
    List<Integer> trace = new ArrayList<>();
    final int[][] sheets = new int[4][];
    final int[] bits = new int[4];

    // how often rare things were seen, for ModelTest to know that they were
    int sawBack, sawFault, sawHear, sawFog, sawToll, sawStuck, sawPlan, sawOldBack;

    Model() {
        java.util.Arrays.fill(w.room, 1);
    }

    private int err(int e) {
        told[-1000000000 - e]++;
        return e;
    }

    // ---- KINDS

    static final int[] UP = {-1, 0, 0, 0, 1, 2, 3};

    static int pace(int kind, int m) {
        switch (kind) {
            case 0: return 1;
            case 1: return 2;
            case 4: return pace(1, m) + 1;
            case 5: return pace(2, m) + m % 3;
            default: return pace(UP[kind], m);
        }
    }

    static int load(int kind, int m) {
        switch (kind) {
            case 0: return m;
            case 1: return 20;
            case 2: return Math.max(load(0, m) - 3, 0);
            case 3: return load(0, m) + 9;
            case 5: return 2 * load(2, m);
            case 6: return load(3, m) - m;
            default: return load(UP[kind], m);
        }
    }

    static boolean canBack(int kind, int m) {
        switch (kind) {
            case 0: return true;
            case 1: return false;
            case 3: return m % 2 == 1;
            default: return canBack(UP[kind], m);
        }
    }

    static boolean hears(int kind) {
        return kind != 4 && kind != 6;
    }

    // ---- TEXTS

    private static final class Bad extends RuntimeException {
        private static final long serialVersionUID = 1L;
    }

    private static final class Reader {
        final String s;
        final String names;
        final int[] v;
        int at;
        int open;

        Reader(String s, String names, int... v) {
            this.s = s;
            this.names = names;
            this.v = v;
        }

        char c() {
            return at < s.length() ? s.charAt(at) : 0;
        }

        int all() {
            int r = t();
            if (at != s.length()) {
                throw new Bad();
            }
            return r;
        }

        int t() {
            int r = a();
            while (at < s.length() && c() == '|') {
                at++;
                int o = a();
                r = r != 0 || o != 0 ? 1 : 0;
            }
            return r;
        }

        int a() {
            int r = b();
            while (at < s.length() && c() == '&') {
                at++;
                int o = b();
                r = r != 0 && o != 0 ? 1 : 0;
            }
            return r;
        }

        int b() {
            int r = sum();
            char op = c();
            if (op == '<' || op == '=' || op == '>') {
                at++;
                int o = sum();
                int d = Integer.compare(r, o);
                r = (op == '<' ? d < 0 : op == '=' ? d == 0 : d > 0) ? 1 : 0;
            }
            return r;
        }

        int sum() {
            int r = p();
            for (char op = c(); op == '+' || op == '-'; op = c()) {
                at++;
                int o = p();
                r = op == '+' ? r + o : r - o;
            }
            return r;
        }

        int p() {
            int r = q();
            for (char op = c(); op == '*' || op == '/' || op == '%'; op = c()) {
                at++;
                int o = q();
                if (op == '*') {
                    r = r * o;
                } else if (o == 0) {
                    r = 0;
                } else {
                    r = (int) (op == '/' ? (long) r / o : (long) r % o);
                }
            }
            return r;
        }

        int q() {
            char c = c();
            if (c >= '0' && c <= '9') {
                int r = 0;
                for (int n = 0; n < 4 && c() >= '0' && c() <= '9'; n++) {
                    r = r * 10 + c() - '0';
                    at++;
                }
                return r;
            }
            if (c != 0 && names.indexOf(c) >= 0) {
                at++;
                return v[names.indexOf(c)];
            }
            if (c != '!' && c != '(' || open == 5) {
                throw new Bad();
            }
            at++;
            open++;
            int r;
            if (c == '!') {
                r = q() == 0 ? 1 : 0;
            } else {
                r = t();
                if (c() != ')') {
                    throw new Bad();
                }
                at++;
            }
            open--;
            return r;
        }
    }

    static boolean isText(String s, String names) {
        try {
            new Reader(s, names, 1, 1, 1).all();
            return true;
        } catch (Bad e) {
            return false;
        }
    }

    /** Some TEXT goes on from there, if one does that closes what is open, with an operand or without. */
    static boolean goesOn(String s, String names) {
        String close = "";
        for (int k = 0; k <= 5; k++) {
            if (isText(s + close, names) || isText(s + "1" + close, names) || isText(s + "l" + close, names)) {
                return true;
            }
            close += ")";
        }
        return false;
    }

    static int fault(String s, String names) {
        if (isText(s, names)) {
            return -1;
        }
        for (int i = 0; i < s.length(); i++) {
            if (!goesOn(s.substring(0, i + 1), names)) {
                return i;
            }
        }
        return s.length();
    }

    static final String[] NAMES = {"lnb", "lkt"};

    static int give(World w, int use, int a, int b, int c) {
        int v = new Reader(w.texts[use], NAMES[use], a, b, c).all();
        return use == 0 ? v : Math.max(-99, Math.min(99, v));
    }

    static int rank(World w, int i) {
        G g = w.goers.get(i);
        return give(w, 0, load(g.kind, g.m), i, g.times);
    }

    // ---- a MINUTE

    static int crowd(World w, int yard) {
        int n = 0;
        for (G g : w.goers) {
            n += g.how == 1 && g.yard == yard ? 1 : 0;
        }
        return n;
    }

    static boolean free(World w, int yard) {
        return crowd(w, yard) < w.room[yard];
    }

    static int ledge(World w, int yard) {
        if (w.room[yard] == 1) {
            return -1;
        }
        int n = 0;
        for (int i = 0; i < yard; i++) {
            n += w.room[i] > 1 ? 1 : 0;
        }
        return n;
    }

    static int ledges(World w) {
        int n = 0;
        for (int r : w.room) {
            n += r > 1 ? 1 : 0;
        }
        return n;
    }

    static int oncomer(World w, G g, int yard) {
        for (int i = 0; i < w.goers.size(); i++) {
            G o = w.goers.get(i);
            if (o.how == 1 && o.yard == yard && o.up() != g.up() && !o.back) {
                return i;
            }
        }
        return -1;
    }

    void minute(World w, boolean fog) {
        w.minute++;
        for (int i = 0; i < w.goers.size(); i++) {
            G g = w.goers.get(i);
            if (g.how == 0 && g.start <= w.minute && free(w, g.from)) {
                g.how = 1;
                g.yard = g.from;
                g.wait = 0;
                g.back = false;
            } else if (g.how == 1 && g.wait > 0) {
                g.wait--;
            } else if (g.how == 1 && g.yard == g.to && !g.back) {
                g.how = 2;
                g.yard = -1;
                g.fault = false;
            } else if (g.how == 1) {
                goOn(w, i, g, fog);
            }
        }
    }

    private void goOn(World w, int i, G g, boolean fog) {
        boolean atLedge = w.room[g.yard] > 1;
        int ahead = g.up() ? 1 : -1;
        if (atLedge && !g.back && hears(g.kind)) {
            for (int y = g.yard + ahead; y >= 0 && y < 24 && w.room[y] == 1; y += ahead) {
                if (oncomer(w, g, y) >= 0) {
                    if (fog) {
                        sawFog++;
                    } else {
                        sawHear++;
                        return;
                    }
                }
            }
        }
        int next = g.back ? g.yard - ahead : g.yard + ahead;
        if (next < 0 || next > 23) {
            return;
        }
        if (free(w, next)) {
            g.yard = next;
            g.wait = pace(g.kind, g.m) - 1;
            if (w.room[next] > 1) {
                int toll = give(w, 1, load(g.kind, g.m), ledge(w, next), w.minute);
                w.takings = Math.max(-99999, Math.min(99999, w.takings + toll));
                sawToll += toll != 0 ? 1 : 0;
                sawOldBack += g.back ? 1 : 0;
                g.back = false;
            }
        } else if (!g.back && !atLedge && oncomer(w, g, next) >= 0) {
            int o = oncomer(w, g, next);
            int mine = rank(w, i);
            int its = rank(w, o);
            if (mine < its || mine == its && i > o) {
                if (canBack(g.kind, g.m)) {
                    g.back = true;
                    g.times++;
                    w.backs = Math.min(9999, w.backs + 1);
                    sawBack++;
                } else {
                    g.fault = true;
                    sawFault++;
                }
            }
        }
    }

    static int how(World w, int how) {
        int n = 0;
        for (G g : w.goers) {
            n += g.how == how ? 1 : 0;
        }
        return n;
    }

    static boolean allOver(World w) {
        return how(w, 2) == w.goers.size();
    }

    /** OVER BY and BACKS by then; null: none. */
    private int[] over(World from) {
        World a = from.copy();
        for (int n = 0; n <= 300; n++) {
            if (allOver(a)) {
                return new int[] {n, a.backs};
            }
            minute(a, false);
        }
        return null;
    }

    private static String places(World w) {
        StringBuilder s = new StringBuilder();
        for (G g : w.goers) {
            s.append(g.how).append(' ').append(g.yard).append(' ').append(g.wait).append(' ').append(g.back).append(';');
        }
        return s.toString();
    }

    // ---- the face

    int refuse(int yard, int v) {
        if (yard < 0 || yard > 23 || v < 1 || v > 5) {
            return BEYOND;
        }
        if (crowd(w, yard) > v) {
            return STATE;
        }
        int[] room = w.room.clone();
        room[yard] = v;
        int n = 0;
        for (int r : room) {
            n += r > 1 ? 1 : 0;
        }
        return n > 9 ? FULL : 0;
    }

    int room(int yard, int v) {
        int e = refuse(yard, v);
        if (e != 0) {
            return err(e);
        }
        int was = w.room[yard];
        w.room[yard] = v;
        return was;
    }

    int ofYard(int yard, int what) {
        if (yard < 0 || yard > 23 || what < 0 || what > 2) {
            return err(BEYOND);
        }
        return what == 0 ? w.room[yard] : what == 1 ? crowd(w, yard) : ledge(w, yard);
    }

    int goer(int km, int from, int to, int start) {
        if (km < 0 || km > 69 || from < 0 || from > 23 || to < 0 || to > 23 || from == to || start < 0 || start > 999) {
            return err(BEYOND);
        }
        if (w.goers.size() == 8) {
            return err(FULL);
        }
        G g = new G();
        g.kind = km / 10;
        g.m = km % 10;
        g.from = from;
        g.to = to;
        g.start = start;
        w.goers.add(g);
        return w.goers.size() - 1;
    }

    private boolean no(int goer) {
        return goer < 0 || goer >= w.goers.size();
    }

    private static int fact(World w, int i, int what) {
        G g = w.goers.get(i);
        int[] all = {g.kind, g.m, g.from, g.to, g.start, g.how, g.how == 1 ? g.yard : -1, g.wait, g.back ? 1 : 0,
            g.times, pace(g.kind, g.m), load(g.kind, g.m), rank(w, i), canBack(g.kind, g.m) ? 1 : 0,
            hears(g.kind) ? 1 : 0};
        return all[what];
    }

    int ofGoer(int goer, int what) {
        return no(goer) || what < 0 || what > 14 ? err(BEYOND) : fact(w, goer, what);
    }

    int become(int goer, int km) {
        if (no(goer) || km < 0 || km > 69) {
            return err(BEYOND);
        }
        G g = w.goers.get(goer);
        int was = g.kind;
        g.kind = km / 10;
        g.m = km % 10;
        return was;
    }

    int as(int goer, int kind) {
        if (no(goer) || kind < 0 || kind > 6) {
            return err(BEYOND);
        }
        G g = w.goers.get(goer);
        for (int k = g.kind; k >= 0; k = UP[k]) {
            if (k == kind) {
                return g.m;
            }
        }
        return err(KIND);
    }

    int start(int goer, int v) {
        if (no(goer) || v < 0 || v > 999) {
            return err(BEYOND);
        }
        G g = w.goers.get(goer);
        if (g.how != 0) {
            return err(STATE);
        }
        int was = g.start;
        g.start = v;
        return was;
    }

    int home(int goer) {
        if (no(goer)) {
            return err(BEYOND);
        }
        G g = w.goers.get(goer);
        G fresh = new G();
        fresh.kind = g.kind;
        fresh.m = g.m;
        fresh.from = g.from;
        fresh.to = g.to;
        fresh.start = g.start;
        w.goers.set(goer, fresh);
        return g.how;
    }

    int feed(long word, int n) {
        if (n < 1 || n > 8) {
            return err(BEYOND);
        }
        if (w.tape.length() + n > 50) {
            return err(FULL);
        }
        for (int i = 0; i < n; i++) {
            w.tape += (char) (word & 255);
            word >>= 8;
        }
        return w.tape.length();
    }

    int text(int use) {
        if (use != 0 && use != 1) {
            return err(BEYOND);
        }
        String s = w.tape;
        w.tape = "";
        int f = fault(s, NAMES[use]);
        if (f >= 0) {
            return -10 - f;
        }
        w.texts[use] = s;
        return 1;
    }

    int law(int use, int a, int b, int c) {
        return use != 0 && use != 1 ? err(BEYOND) : give(w, use, a, b, c);
    }

    int minutes(int n) {
        if (n < 1 || n > 300) {
            return err(BEYOND);
        }
        if (w.minute + n > 9999) {
            return err(STATE);
        }
        for (int i = 0; i < n; i++) {
            minute(w, false);
        }
        return how(w, 2);
    }

    int loose(int n) {
        if (n < 1 || n > 300) {
            return err(BEYOND);
        }
        if (w.minute + n > 9999) {
            return err(STATE);
        }
        for (int i = 0; i < n; i++) {
            w.z = w.z * 1103515245 + 12345;
            minute(w, (w.z >>> 8) % 4 == 0);
        }
        return how(w, 2);
    }

    int then(int n, int goer, int what) {
        if (n < 0 || n > 300 || no(goer) || what < 5 || what > 9) {
            return err(BEYOND);
        }
        World a = w.copy();
        for (int i = 0; i < n; i++) {
            minute(a, false);
        }
        return fact(a, goer, what);
    }

    int overBy() {
        int[] o = over(w);
        return o == null ? err(NONE) : o[0];
    }

    int stuckBy() {
        World a = w.copy();
        for (int n = 0; n <= 300; n++) {
            boolean set = !allOver(a);
            for (G g : a.goers) {
                set &= g.how != 0 || g.start <= a.minute;
            }
            String was = places(a);
            minute(a, false);
            if (set && was.equals(places(a))) {
                sawStuck++;
                return n;
            }
        }
        return err(NONE);
    }

    int bestStart(int goer, int what) {
        if (no(goer) || what < 0 || what > 2) {
            return err(BEYOND);
        }
        if (w.goers.get(goer).how != 0) {
            return err(STATE);
        }
        int[] best = null;
        for (int s = Math.min(999, w.minute + 59); s >= w.minute; s--) {
            World a = w.copy();
            a.goers.get(goer).start = s;
            int[] o = over(a);
            if (o != null && (best == null || o[0] < best[1] || o[0] == best[1] && o[1] <= best[2])) {
                best = new int[] {s, o[0], o[1]};
            }
        }
        if (best == null) {
            return err(NONE);
        }
        sawPlan++;
        return best[what];
    }

    int spare(int goer) {
        if (no(goer)) {
            return err(BEYOND);
        }
        if (w.goers.get(goer).how != 0) {
            return err(STATE);
        }
        int[] asIs = over(w);
        if (asIs == null) {
            return err(NONE);
        }
        int later = 0;
        while (later < 60 && w.goers.get(goer).start + later + 1 <= 999) {
            World a = w.copy();
            a.goers.get(goer).start += later + 1;
            int[] o = over(a);
            if (o == null || o[1] > asIs[1]) {
                break;
            }
            later++;
        }
        sawPlan++;
        return later;
    }

    int without(int ledge) {
        for (int yard = 0; yard < 24; yard++) {
            if (ledge >= 0 && ledge(w, yard) == ledge) {
                if (crowd(w, yard) > 1) {
                    return err(STATE);
                }
                World a = w.copy();
                a.room[yard] = 1;
                int[] o = over(a);
                return o == null ? err(NONE) : o[0];
            }
        }
        return err(BEYOND);
    }

    int newOne(int what) {
        if (what != 0 && what != 1) {
            return err(BEYOND);
        }
        if (ledges(w) == 9) {
            return err(FULL);
        }
        int[] best = null;
        for (int yard = 23; yard >= 0; yard--) {
            if (w.room[yard] == 1) {
                World a = w.copy();
                a.room[yard] = 2;
                int[] o = over(a);
                if (o != null && (best == null || o[0] <= best[1])) {
                    best = new int[] {yard, o[0]};
                }
            }
        }
        return best == null ? err(NONE) : best[what];
    }

    int faults() {
        int b = 0;
        for (int i = 0; i < w.goers.size(); i++) {
            b += w.goers.get(i).fault ? 1 << i : 0;
        }
        return b;
    }

    int seed(int v) {
        int was = w.z;
        w.z = v;
        return was;
    }

    /** BODIES by KIND and act: their numbers; 0: none. */
    static final int[][] BODIES = {
        {10, 11, 12, 13}, {0, 20, 0, 0}, {30, 0, 0, 0}, {0, 0, 40, 0}, {0, 50, 0, 0}, {0, 0, 0, 60}, {0, 0, 70, 71},
    };

    private int speak(int goer, int above, int act, int x) {
        G g = w.goers.get(goer);
        int k = above;
        while (BODIES[k][act] == 0) {
            k = UP[k];
        }
        int body = BODIES[k][act];
        if (trace.size() < 40) {
            trace.add(body);
        }
        switch (body) {
            case 10: return x + goer;
            case 11: return speak(goer, g.kind, 0, x) * 2;
            case 12: return x - g.m;
            case 13: return speak(goer, g.kind, 1, x) ^ speak(goer, g.kind, 2, x);
            case 20: return speak(goer, UP[k], 1, x) - speak(goer, g.kind, 2, 1);
            case 30: return speak(goer, UP[k], 0, x) * 3;
            case 40: return -speak(goer, UP[k], 2, x);
            case 50: return speak(goer, UP[k], 1, x + 1);
            case 60: return speak(goer, UP[k], 3, x) - speak(goer, g.kind, 0, 2);
            case 70: return speak(goer, UP[k], 2, x) ^ goer;
            default: return speak(goer, g.kind, 1, x) - speak(goer, UP[k], 3, x);
        }
    }

    int voice(int goer, int act, int x) {
        if (no(goer) || act < 0 || act > 3) {
            return err(BEYOND);
        }
        trace = new ArrayList<>();
        return speak(goer, w.goers.get(goer).kind, act, x);
    }

    int trace(int i) {
        return i < 0 || i >= trace.size() ? err(NONE) : trace.get(i);
    }

    int sheet(int sheet, int bits, int n) {
        if (sheet < 0 || sheet > 3 || bits != 0 && bits != 8 && bits != 16 && bits != 32) {
            return err(BEYOND);
        }
        if (bits == 0) {
            sheets[sheet] = null;
            return 1;
        }
        if (n < 0) {
            return err(STATE);
        }
        if (n > 40) {
            return err(BEYOND);
        }
        sheets[sheet] = new int[n];
        this.bits[sheet] = bits;
        return 1;
    }

    int put(int sheet, int i, int v) {
        if (sheet < 0 || sheet > 3) {
            return err(BEYOND);
        }
        if (sheets[sheet] == null) {
            return err(NONE);
        }
        if (i < 0 || i >= sheets[sheet].length) {
            return err(BEYOND);
        }
        int shift = 32 - bits[sheet];
        sheets[sheet][i] = v << shift >> shift;
        return 1;
    }

    int move(int sheet, int i, int other, int j, int n) {
        if (sheet < 0 || sheet > 3 || other < 0 || other > 3) {
            return err(BEYOND);
        }
        if (sheets[sheet] == null || sheets[other] == null) {
            return err(NONE);
        }
        if (bits[sheet] != bits[other]) {
            return err(KIND);
        }
        if (n < 0 || i < 0 || j < 0 || (long) i + n > sheets[sheet].length || (long) j + n > sheets[other].length) {
            return err(BEYOND);
        }
        int[] was = sheets[sheet].clone();
        for (int k = 0; k < n; k++) {
            sheets[other][j + k] = was[i + k];
        }
        return n;
    }

    int rooms(int sheet) {
        if (sheet < 0 || sheet > 3) {
            return err(BEYOND);
        }
        if (sheets[sheet] == null) {
            return err(NONE);
        }
        int yard = 0;
        for (int v : sheets[sheet]) {
            if (refuse(yard, v) != 0) {
                break;
            }
            w.room[yard] = v;
            yard++;
        }
        return yard;
    }

    int judge(int sheet) {
        if (sheet < 0 || sheet > 3) {
            return err(BEYOND);
        }
        int[] row = sheets[sheet];
        if (row == null) {
            return err(NONE);
        }
        for (int i = 0; i < Math.max(row.length, w.goers.size()); i++) {
            if (i >= row.length || i >= w.goers.size() || row[i] != fact(w, i, 6)) {
                return i;
            }
        }
        return -1;
    }

    int image() {
        image = w.copy();
        return ++images;
    }

    int restore() {
        if (image == null) {
            return err(NONE);
        }
        w = image.copy();
        return w.minute;
    }

    int tell(int v) {
        if (w.waiting.size() == 20) {
            return err(FULL);
        }
        w.waiting.add(v);
        return w.waiting.size();
    }

    int check() {
        World a = w.copy();
        List<Integer> all = w.waiting;
        w.waiting = new ArrayList<>();
        for (int i = 0; i < all.size(); i++) {
            minute(a, false);
            if (all.get(i) != how(a, 2)) {
                return 1 + i;
            }
        }
        return 0;
    }

    int count(int what) {
        if (what < 0 || what > 10) {
            return err(BEYOND);
        }
        int[] all = {w.goers.size(), ledges(w), w.minute, how(w, 1), how(w, 2), w.takings, w.backs, w.tape.length(),
            w.waiting.size(), trace.size(), w.z};
        return all[what];
    }

    int told(int k) {
        return k < 1 || k > 5 ? err(BEYOND) : told[k];
    }
}
