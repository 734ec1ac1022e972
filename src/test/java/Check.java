import java.nio.charset.StandardCharsets;

/** Counts answers that are not as due, and puts texts on an object's TAPE. */
final class Check {
    private int wrong;
    private int asked;
    private String part = "";

    void part(String name) {
        part = name;
    }

    void due(String call, long got, long want) {
        asked++;
        if (got != want) {
            wrong++;
            System.out.println(part + ": " + call + " answered " + got + ", due is " + want);
        }
    }

    void due(String call, boolean got, boolean want) {
        due(call, got ? 1 : 0, want ? 1 : 0);
    }

    /** What lies there, all of it. */
    void lying(String call, NightLights x, int... want) {
        due(call + ": numbers that lie there", x.about(12), want.length);
        for (int i = 0; i < want.length; i++) {
            due(call + ": lies(" + i + ")", x.lies(i), want[i]);
        }
        due(call + ": lies behind all", x.lies(want.length), -2);
    }

    int wrong() {
        return wrong;
    }

    void finish() {
        System.out.println(wrong == 0 ? asked + " answers are as due" : wrong + " of " + asked + " answers are not as due");
        if (wrong != 0) {
            System.exit(1);
        }
    }

    static void tape(NightLights x, byte[] text) {
        for (int at = 0; at < text.length; at += 20) {
            int[] five = new int[5];
            for (int i = 0; i < 20; i++) {
                int b = at + i < text.length ? text[at + i] & 255 : 32;
                five[i / 4] = five[i / 4] << 8 | b;
            }
            x.feed(five[0], five[1], five[2], five[3], five[4]);
        }
        x.end(text.length);
    }

    static int tell(NightLights x, String text) {
        x.end(0);
        tape(x, text.getBytes(StandardCharsets.ISO_8859_1));
        return x.parish();
    }

    static NightLights told(String text) {
        NightLights x = new NightLights();
        if (tell(x, text) < 0) {
            throw new IllegalArgumentException("FAULT " + x.fault(0) + " at " + x.fault(1) + ": " + text);
        }
        return x;
    }
}
