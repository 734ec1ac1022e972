import java.nio.charset.StandardCharsets;
import java.util.function.BooleanSupplier;
import java.util.function.IntSupplier;

/** Counts answers that are not as due, and puts texts on an object's TAPE. */
final class Check {
    /** Numbers that no call of the face takes for a BOY, a MAN, a what, an n, a PLACE, a BOX. */
    static final int[] WILD = {-1, -2, -100, 1001, 65536, 16777216, Integer.MAX_VALUE, Integer.MAX_VALUE - 1,
        Integer.MIN_VALUE, Integer.MIN_VALUE + 1};

    private int wrong;
    private int asked;
    private String part = "";

    void part(String name) {
        part = name;
    }

    void due(String call, long got, long want) {
        asked++;
        if (got != want) {
            wrong++;
            System.out.println(part + ": " + call + " answered " + got + ", due is " + want);
        }
    }

    void due(String call, boolean got, boolean want) {
        due(call, got ? 1 : 0, want ? 1 : 0);
    }

    /** What lies there, all of it. */
    void lying(String call, NightLights x, int... want) {
        due(call + ": numbers that lie there", x.about(12), want.length);
        for (int i = 0; i < want.length; i++) {
            due(call + ": lies(" + i + ")", x.lies(i), want[i]);
        }
        due(call + ": lies behind all", x.lies(want.length), -2);
    }

    /** The call answers so, and all that can be seen of the object is then as it was. */
    void leaves(NightLights x, String call, IntSupplier made, int want) {
        int[] before = outside(x);
        due(call, made.getAsInt(), want);
        int[] then = outside(x);
        for (int i = 0; i < before.length; i++) {
            due(call + " leaves what is seen (" + i + ")", then[i], before[i]);
        }
    }

    void refuses(NightLights x, String call, IntSupplier made) {
        leaves(x, call, made, NightLights.NONE);
    }

    void refusesSo(NightLights x, String call, BooleanSupplier made) {
        leaves(x, call, () -> made.getAsBoolean() ? 1 : 0, 0);
    }

    /** All that calls tell that change nothing, not even what lies there. */
    static int[] outside(NightLights x) {
        int[] seen = new int[110];
        int n = 0;
        for (int what = 0; what <= 13; what++) {
            seen[n++] = x.about(what);
        }
        for (int man = 0; man < 6; man++) {
            for (int what = 0; what <= 6; what++) {
                seen[n++] = x.man(man, what);
            }
            for (int boy = 0; boy < 4; boy++) {
                seen[n++] = x.help(boy, man);
            }
        }
        for (int boy = 0; boy < 4; boy++) {
            for (int what = 0; what <= 2; what++) {
                seen[n++] = x.boy(boy, what);
            }
        }
        for (int i = 0; i <= 6; i++) {
            seen[n++] = x.lies(i);
        }
        seen[n++] = x.fault(0);
        seen[n++] = x.fault(1);
        int time = x.about(9);
        seen[n++] = x.fits(time);
        seen[n++] = x.sure(0, time);
        seen[n++] = x.sure(1, time);
        seen[n++] = x.fits(time - 1);
        return seen;
    }

    int wrong() {
        return wrong;
    }

    void finish() {
        System.out.println(wrong == 0 ? asked + " answers are as due" : wrong + " of " + asked + " answers are not as due");
        if (wrong != 0) {
            System.exit(1);
        }
    }

    static void tape(NightLights x, byte[] text) {
        for (int at = 0; at < text.length; at += 20) {
            int[] five = new int[5];
            for (int i = 0; i < 20; i++) {
                int b = at + i < text.length ? text[at + i] & 255 : 32;
                five[i / 4] = five[i / 4] << 8 | b;
            }
            x.feed(five[0], five[1], five[2], five[3], five[4]);
        }
        x.end(text.length);
    }

    static int tell(NightLights x, String text) {
        x.end(0);
        tape(x, text.getBytes(StandardCharsets.ISO_8859_1));
        return x.parish();
    }

    static NightLights told(String text) {
        NightLights x = new NightLights();
        if (tell(x, text) < 0) {
            throw new IllegalArgumentException("FAULT " + x.fault(0) + " at " + x.fault(1) + ": " + text);
        }
        return x;
    }
}
