/** Objects in the midst of things, made anew each time by some 60 calls, for what is to be compared. */
final class Scene {
    /** The three draws that follow it give no FOG. */
    private static final int SEED = 8;

    private Scene() {
    }

    /**
     * Two pairs jammed (GOERS 0 and 1, of which 0 is AT FAULT; 3 comes after 2, which BACKS up to 1), GOER 4 OVER,
     * 5 waiting at LEDGE 3 (YARD 20), 6 at HOME; TEXTS, THE TAPE, numbers that wait, SHEETS, a VOICE, an IMAGE.
     */
    static NineLedges busy() {
        NineLedges x = new NineLedges();
        x.room(2, 2);
        x.room(6, 3);
        x.room(11, 2);
        x.room(20, 2);
        Due.text(x, 0, "l*2+n-b");
        Due.text(x, 1, "l-k*2");
        x.goer(10, 12, 20, 0);
        x.goer(14, 14, 8, 0);
        x.goer(35, 17, 23, 0);
        x.goer(12, 18, 13, 0);
        x.goer(3, 0, 5, 0);
        x.goer(5, 20, 1, 0);
        x.goer(61, 3, 8, 400);
        x.minutes(5);
        Due.feed(x, "7");
        x.tell(0);
        x.tell(1);
        x.image();
        x.seed(SEED);
        x.loose(3);
        x.check();
        for (int i = 0; i < 3; i++) {
            x.tell(1);
        }
        Due.feed(x, "+n");
        x.voice(6, 3, 4);
        x.sheet(0, 8, 5);
        x.sheet(1, 16, 4);
        x.sheet(2, 8, 3);
        for (int sheet = 0; sheet < 3; sheet++) {
            for (int i = 0; i < 3; i++) {
                x.put(sheet, i, 1 + (sheet + 2 * i) % 5);
            }
        }
        x.trace(-1);
        x.tell(2147483647);
        x.told(0);
        return x;
    }

    static NineLedges nineLedges() {
        NineLedges x = busy();
        for (int yard = 7; yard < 10; yard++) {
            x.room(yard, 2);
        }
        x.room(22, 4);
        x.room(23, 5);
        return x;
    }

    /** An eighth GOER, which waits at LEDGE 3 beside GOER 5. */
    static NineLedges eightGoers() {
        NineLedges x = busy();
        x.goer(1, 20, 1, 0);
        x.minutes(1);
        return x;
    }

    /** Fifty bytes: 7+n, then + upon +, and a 1. */
    static NineLedges fullTape() {
        NineLedges x = busy();
        for (int i = 0; i < 5; i++) {
            x.feed(0x2b2b2b2b2b2b2b2bL, 8);
        }
        x.feed(0x312b2b2b2b2b2bL, 7);
        return x;
    }

    static NineLedges twentyWait() {
        NineLedges x = busy();
        for (int i = 4; i < 20; i++) {
            x.tell(1);
        }
        return x;
    }

    /** MINUTE 9998, and all else as it was by the jam; GOER 6 is at HOME again. */
    static NineLedges late() {
        NineLedges x = busy();
        for (int i = 0; i < 33; i++) {
            x.minutes(300);
        }
        x.minutes(90);
        x.home(6);
        return x;
    }

    /** One that goes alone, and one at HOME: all are OVER by 300. */
    static NineLedges easy() {
        NineLedges x = new NineLedges();
        x.room(5, 2);
        x.goer(2, 0, 9, 0);
        x.goer(2, 1, 9, 30);
        x.minutes(2);
        return x;
    }
}
