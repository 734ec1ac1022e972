import java.nio.charset.StandardCharsets;

/** The example of README.md: a parish is told, some acts are done, some questions asked. */
public final class Example {
    public static void main(String[] args) {
        NightLights x = new NightLights();
        put(x, "man dean at 10 fear 8 age 60 oil 2 lit; man clerk at 20 fear 12 age 41 oil 1;\n"
                + "boy tim at 6 calm 9; boy ned at 18 calm 14; tank 10; pipes 30; draw 7;\n");
        System.out.println("men: " + x.parish());

        System.out.println("ned to the clerk, whose ease is then " + x.send(1, 1));
        System.out.println("four more oil for the dean: " + x.pour(0, 4));
        System.out.println("who sleeps in this night, as bits: " + x.night());
        System.out.println("how afraid the dean is then: " + x.man(0, 1));
        System.out.println("the night is taken back: " + x.undo());

        System.out.println("how many would sleep by the best sending: " + x.sending(0));
        for (int man = 0; man < x.about(12); man++) {
            System.out.println("  to man " + man + " boy " + x.lies(man));
        }
        System.out.println("a boy who isn't there: " + x.help(7, 0));

        put(x, "tank 100;");
        System.out.println("a text with a fault: " + x.parish());
        System.out.println("  which one: " + x.fault(0) + ", at byte " + x.fault(1));
        System.out.println("  the tape stays, and is emptied by end: " + x.end(0));
    }

    /** Puts a text on the tape: four bytes to a number, five numbers to a call, the last call filled up with blanks. */
    static void put(NightLights x, String text) {
        byte[] bytes = text.getBytes(StandardCharsets.ISO_8859_1);
        int before = x.about(10);
        for (int at = 0; at < bytes.length; at += 20) {
            int[] five = new int[5];
            for (int i = 0; i < 20; i++) {
                int b = at + i < bytes.length ? bytes[at + i] & 255 : ' ';
                five[i / 4] = five[i / 4] << 8 | b;
            }
            x.feed(five[0], five[1], five[2], five[3], five[4]);
        }
        x.end(before + bytes.length);
    }
}
