import java.util.ArrayList;
import java.util.List;
import java.util.function.Supplier;

/**
 * "Each act that answers an ERROR changes nothing but what told() tells": the object that was refused a call
 * is compared with a twin that wasn't asked, by all that can be seen of both, SHEETS, IMAGE, THE TAPE and
 * the numbers that wait included. Looking at those changes them, so both are made anew for each refusal.
 */
final class Twins {
    interface Act {
        int on(NineLedges x);
    }

    private Twins() {
    }

    static void refused(String call, Supplier<NineLedges> scene, int error, Act act) {
        NineLedges asked = scene.get();
        NineLedges twin = scene.get();
        Due.due(call, act.on(asked), error);
        for (int k = 1; k <= 5; k++) {
            int more = k == Due.LOW - error ? 1 : 0;
            Due.due(call + ", then told(" + k + ")", asked.told(k), twin.told(k) + more);
        }
        alike(call, asked, twin);
    }

    /** Both look alike in all but told(); they are spent behind that. */
    static void alike(String call, NineLedges x, NineLedges twin) {
        List<String> got = seen(x);
        List<String> want = seen(twin);
        Due.due(call + " leaves as many answers", got.size(), want.size());
        for (int i = 0; i < Math.min(got.size(), want.size()); i++) {
            boolean alike = got.get(i).equals(want.get(i));
            Due.due(alike ? call : call + " changed " + want.get(i) + " to " + got.get(i), alike);
        }
    }

    /** All that can be seen of an object, some 400 calls; told() isn't asked, and SHEETS, IMAGE and all are spent. */
    private static List<String> seen(NineLedges x) {
        List<String> all = new ArrayList<>();
        state(all, x);
        for (int yard = 0; yard < 24; yard++) {
            all.add("ofYard(" + yard + ", 1) " + x.ofYard(yard, 1));
        }
        for (int i = 0; i < x.count(9); i++) {
            all.add("trace(" + i + ") " + x.trace(i));
        }
        for (int sheet = 0; sheet < 4; sheet++) {
            seeSheet(all, x, sheet);
        }
        spend(all, x, 0);
        all.add("restore() " + x.restore());
        state(all, x);
        spend(all, x, 1);
        all.add("image() " + x.image());
        return all;
    }

    private static void state(List<String> all, NineLedges x) {
        for (int what = 0; what <= 10; what++) {
            all.add("count(" + what + ") " + x.count(what));
        }
        for (int yard = 0; yard < 24; yard++) {
            all.add("ofYard(" + yard + ", 0) " + x.ofYard(yard, 0));
        }
        for (int goer = 0; goer < x.count(0); goer++) {
            for (int what : new int[] {0, 1, 3, 4, 5, 6, 7, 8, 9, 12}) {
                all.add("ofGoer(" + goer + ", " + what + ") " + x.ofGoer(goer, what));
            }
        }
        all.add("faults() " + x.faults());
        all.add("law(0, ..) " + x.law(0, 7, 3, 2));
        all.add("law(1, ..) " + x.law(1, 7, 3, 2));
    }

    private static void seeSheet(List<String> all, NineLedges x, int sheet) {
        String name = "SHEET " + sheet + " ";
        all.add(name + "judge " + x.judge(sheet));
        all.add(name + "rooms " + x.rooms(sheet));
        for (int yard = 0; yard < 5; yard++) {
            all.add(name + "ROOM " + yard + " " + x.ofYard(yard, 0));
        }
        for (int wide : new int[] {256 + 2, 65536 + 3}) {
            all.add(name + "put " + x.put(sheet, 0, wide) + " rooms " + x.rooms(sheet) + " ROOM " + x.ofYard(0, 0));
        }
        for (int i = 1; i <= 6; i++) {
            all.add(name + "put at " + i + " " + x.put(sheet, i, 1));
        }
    }

    private static void spend(List<String> all, NineLedges x, int use) {
        all.add("check() " + x.check());
        all.add("text(" + use + ") " + x.text(use) + " law " + x.law(use, 7, 3, 2));
    }
}
