import java.nio.charset.StandardCharsets;

/** Boundary cases of the text, sentence by sentence: "Terms" before ==== 2, and promises 1 to 5. */
final class TextEdges {
    private static final int BLANKS = 0x20202020;
    private static final String MAN = "man a at 1 fear 2 age 3;";
    private static final String BOY = "boy x at 4 calm 5;";

    private final Check c;
    private final Document d;

    TextEdges(Check c, Document d) {
        this.c = c;
        this.d = d;
    }

    void all() {
        newObject();
        tape();
        end();
        parishAnew();
        parishAgainAndAgain();
        parishRefused();
        fault();
        lengths();
        lines();
        words();
        numbers();
        signsAndBlanks();
        names();
        menTold();
        boysTold();
        onceEach();
        units();
        nested();
        firstFault();
    }

    private void fault(String text, int fault, int place) {
        NightLights x = new NightLights();
        String shown = text.length() > 60 ? text.substring(0, 60) + ".." : text;
        c.due("parish of '" + shown + "' is good", Check.tell(x, text) >= 0, fault == 0);
        c.due("fault(0) of '" + shown + "'", x.fault(0), fault);
        c.due("fault(1) of '" + shown + "'", x.fault(1), place);
    }

    private void good(String text) {
        fault(text, 0, NightLights.NONE);
    }

    private void newObject() {
        d.says(1, "An empty PARISH.");
        NightLights x = new NightLights();
        for (int what = 0; what <= 13; what++) {
            c.due("about(" + what + ")", x.about(what), 0);
        }
        c.due("man(0, 0)", x.man(0, 0), -2);
        c.due("boy(0, 0)", x.boy(0, 0), -2);
        c.due("lies(0)", x.lies(0), -2);
        c.due("undo()", x.undo(), false);
        c.due("redo()", x.redo(), false);
        c.due("untell(0)", x.untell(0), false);
        for (int box = 0; box < 3; box++) {
            c.due("back(" + box + ")", x.back(box), -1);
        }
        d.says(Document.TERMS, "(empty at first)");
        c.due("bytes", x.about(10), 0);
        c.due("parish() of nothing", x.parish(), 0);
        c.due("fault(0)", x.fault(0), 0);
    }

    private void tape() {
        d.says(2, "Twenty bytes come behind those on the TAPE, of each number the highest first: how many there are");
        NightLights x = new NightLights();
        x.feed(0x74616e6b, 0x20373b64, 0x72617720, 0x38303b70, 0x69706573);
        c.due("the next twenty", x.feed(0x20393b6d, 0x616e2061, 0x20617420, 0x31206665, 0x61722032), 40);
        c.due("the next twenty", x.feed(0x20616765, 0x20333b20, BLANKS, BLANKS, BLANKS), 60);
        c.due("tank 7;draw 80;pipes 9;" + MAN, x.parish(), 1);
        c.due("tank", x.about(3), 7);
        c.due("draw", x.about(5), 80);
        c.due("pipes", x.about(13), 9);
        c.due("age", x.man(0, 2), 3);
        NightLights high = new NightLights();
        c.due("bytes above 127", high.feed(-1, 0x80808080, Integer.MIN_VALUE, Integer.MAX_VALUE, 0), 20);
        c.due("are no TOKENS", high.parish(), -1);
        c.due("at the first", high.fault(1), 0);

        d.says(2, "NONE, and nothing comes, if there would be more than 1,600.");
        for (int length = 1581; length <= 1600; length++) {
            NightLights full = filled(length);
            c.refuses(full, "feed behind " + length, () -> full.feed(0x21212121, 0x21212121, 0x21212121, 0x21212121, 0x21212121));
            c.due("nothing came: blanks are a good text", full.parish(), 0);
        }
        NightLights fits = filled(1580);
        c.due("feed behind 1580", fits.feed(BLANKS, BLANKS, BLANKS, BLANKS, 0x20202021), 1600);
        c.due("the last byte came", fits.parish(), -1);
        c.due("the last byte came", fits.fault(1), 1599);
    }

    private static NightLights filled(int length) {
        NightLights x = new NightLights();
        for (int i = 0; i < 80; i++) {
            x.feed(BLANKS, BLANKS, BLANKS, BLANKS, BLANKS);
        }
        x.end(length);
        return x;
    }

    private void end() {
        d.says(3, "The TAPE has its first n bytes: n");
        NightLights x = new NightLights();
        Check.tape(x, "tank 79;!".getBytes(StandardCharsets.ISO_8859_1));
        c.due("all of them", x.end(9), 9);
        c.due("one less", x.end(8), 8);
        c.due("the first ones are left", x.parish(), 0);
        c.due("the first ones are left", x.about(3), 79);
        c.due("none of none", x.end(0), 0);
        NightLights y = new NightLights();
        Check.tape(y, "!!!".getBytes(StandardCharsets.ISO_8859_1));
        c.due("none of three", y.end(0), 0);
        c.due("a good text", y.parish(), 0);

        d.says(3, "NONE, doing nothing, if it has not so many, or n is below 0.");
        NightLights z = new NightLights();
        c.refuses(z, "end(1) of none", () -> z.end(1));
        Check.tape(z, "tank 5;".getBytes(StandardCharsets.ISO_8859_1));
        c.refuses(z, "end(8) of seven", () -> z.end(8));
        c.refuses(z, "end(20) of seven, though twenty were fed", () -> z.end(20));
        for (int wild : Check.WILD) {
            c.refuses(z, "end(" + wild + ")", () -> z.end(wild));
        }
        c.due("the text stayed", z.parish(), 0);
        c.due("the text stayed", z.about(3), 5);
    }

    /** An object that has something of all that parish() empties. */
    private static NightLights busy() {
        NightLights x = Check.told(MAN + "man b at 9 fear 1 age 1 oil 5 lit;" + BOY + "tank 9;pipes 50;draw 3;help calm;");
        x.later(7);
        x.seen(3, true);
        x.send(0, 0);
        x.pour(0, 2);
        x.light(0);
        x.night();
        for (int box = 0; box < 3; box++) {
            x.image(box);
        }
        x.night();
        x.undo();
        x.stable();
        return x;
    }

    private void parishAnew() {
        NightLights x = busy();
        d.says(4, "The TAPE (empty then) is the PARISH");
        c.due("parish()", Check.tell(x, MAN + BOY), 1);
        c.due("bytes on the TAPE", x.about(10), 0);
        d.says(4, "(all as told, nobody SENT, night 0, no ACTS are kept, nothing is SEEN, nothing lies there, BOXES are empty then; the TIME stays)");
        int[] about = {1, 1, 0, 0, 0, 0, 0, 0, 0, 7, 0, 0, 0, 0};
        for (int what = 0; what < about.length; what++) {
            c.due("about(" + what + ")", x.about(what), about[what]);
        }
        int[] man = {1, 2, 3, 0, 0, -1, 0};
        for (int what = 0; what < man.length; what++) {
            c.due("man(0, " + what + ")", x.man(0, what), man[what]);
        }
        c.due("the second MAN is gone", x.man(1, 0), -2);
        c.due("nobody SENT", x.boy(0, 2), -1);
        c.due("help as if not told", x.help(0, 0), 2);
        c.due("undo()", x.undo(), false);
        c.due("redo()", x.redo(), false);
        c.due("untell(0)", x.untell(0), false);
        c.due("fits(7)", x.fits(7), 41);
        c.due("lies(0)", x.lies(0), -2);
        for (int box = 0; box < 3; box++) {
            c.due("back(" + box + ")", x.back(box), -1);
        }
        NightLights none = busy();
        c.due("an empty text", none.parish(), 0);
        c.due("no MEN", none.about(0), 0);
        c.due("no BOYS", none.about(1), 0);
        d.says(4, "how many MEN");
        c.due("two", Check.tell(none, MAN + "man b at 1 fear 1 age 1;" + BOY), 2);
        c.due("none", Check.tell(none, BOY), 0);
    }

    private void parishAgainAndAgain() {
        d.says(4, "all as told, nobody SENT, night 0");
        NightLights x = new NightLights();
        String rich = "tank 9;pipes 50;draw 3;help 7+calm+age;man b at 9 fear 1 age 4 oil 5 lit;" + BOY;
        for (int i = 0; i < 6; i++) {
            boolean bare = i % 4 > 1;
            c.due("parish " + i, Check.tell(x, bare ? MAN + BOY : rich), 1);
            c.due("tank of " + i, x.about(3), bare ? 0 : 9);
            c.due("pipes of " + i, x.about(13), bare ? 0 : 50);
            c.due("draw of " + i, x.about(5), bare ? 0 : 3);
            c.due("units of " + i, x.about(11), bare ? 0 : 3);
            c.due("help of " + i, x.help(0, 0), bare ? 2 : 16);
            c.due("LIT of " + i, x.about(2), bare ? 0 : 1);
            c.due("OIL of " + i, x.man(0, 3), bare ? 0 : 5);
            c.due("FEAR of " + i, x.man(0, 1), bare ? 2 : 1);
            x.seen(1, true);
            c.due("FITS of " + i, x.fits(0), bare ? 1 : 4);
            x.send(0, 0);
            x.light(0);
            x.night();
        }
        Check.tell(x, "help " + "1" + "+1".repeat(29) + ";");
        Check.tell(x, "help " + "1" + "+1".repeat(29) + ";" + MAN);
        c.due("30 units again and again", Check.tell(x, "help " + "1" + "+1".repeat(29) + ";" + MAN + BOY), 1);
        c.due("30 units again and again", x.help(0, 0), 30);
    }

    private void parishRefused() {
        d.says(4, "NONE: a FAULT (all stays).");
        NightLights x = busy();
        x.end(0);
        Check.tape(x, (BOY + MAN + "tank 3;draw 5;help 7;pipes 200;").getBytes(StandardCharsets.ISO_8859_1));
        int[] before = Check.outside(x);
        c.due("parish()", x.parish(), -1);
        int[] then = Check.outside(x);
        int faults = 14 + 6 * 11 + 12 + 7;
        for (int i = 0; i < before.length; i++) {
            if (i != faults && i != faults + 1) {
                c.due("stays (" + i + ")", then[i], before[i]);
            }
        }
        c.due("REDO stays", x.redo(), true);
        c.due("UNDO stays", x.undo(), true);
        for (int box = 0; box < 3; box++) {
            c.due("BOX " + box + " stays", x.back(box), 1);
        }
        c.due("the TAPE stays", x.end(42 + 7), 49);
        c.due("and is good up to there", x.parish(), 1);
        c.due("its tank", x.about(3), 3);
    }

    private void fault() {
        NightLights x = new NightLights();
        d.says(5, "Of the latest parish() what 0: its FAULT (0), 1: its place (NONE).");
        c.due("before the first: fault(0)", x.fault(0), 0);
        c.due("before the first: fault(1)", x.fault(1), -1);
        Check.tell(x, "tank 1;!");
        c.due("fault(0)", x.fault(0), 1);
        c.due("fault(1)", x.fault(1), 7);
        x.end(0);
        x.undo();
        c.due("till the next: fault(0)", x.fault(0), 1);
        Check.tell(x, ";");
        c.due("at place 0: fault(1)", x.fault(1), 0);
        d.says(5, "NONE for another what.");
        for (int what : new int[] {2, 3, -1, -2, Integer.MAX_VALUE, Integer.MIN_VALUE}) {
            c.due("fault(" + what + ")", x.fault(what), -1);
        }
        d.says(5, "its FAULT (0), 1: its place (NONE)");
        Check.tell(x, "tank 1;");
        c.due("behind a good one: fault(0)", x.fault(0), 0);
        c.due("behind a good one: fault(1)", x.fault(1), -1);
    }

    private void lengths() {
        d.says(Document.TERMS, "A PARISH is a text of at most 1,600 bytes");
        String text = MAN + " ".repeat(1600 - MAN.length() - BOY.length()) + BOY;
        c.due("1,600 bytes", Check.told(text).about(1), 1);
        fault(text.substring(0, 1599), 2, 1599);
        fault(" ".repeat(1592) + "tank 100", 4, 1597);
        fault(" ".repeat(1595) + "tank ", 2, 1600);
        d.says(Document.TERMS, "parish = {line}.");
        good("");
        good("tank 1;");
        good("draw 1;tank 1;" + BOY + "help 1;" + MAN + "pipes 1;");
    }

    private void lines() {
        d.says(Document.TERMS, "line = man NAME at N fear N age N [oil N] [lit] ;");
        good("man a at 1 fear 2 age 3;");
        good("man a at 1 fear 2 age 3 oil 4;");
        good("man a at 1 fear 2 age 3 lit;");
        good("man a at 1 fear 2 age 3 oil 4 lit;");
        cut("man a at 1 fear 2 age 3 oil 4 lit;");
        d.says(Document.TERMS, "boy NAME at N calm N ;");
        cut("boy x at 4 calm 5;");
        d.says(Document.TERMS, "help e ; | tank N ; | pipes N ; | draw N ;.");
        cut("help(1 or not fear)+2<3;");
        cut("tank 1;");
        cut("pipes 1;");
        cut("draw 1;");
        d.says(Document.TERMS, "unit = N | fear | age | calm | far | light | night | ( e ).");
        good("help 7+fear+age+calm+far+light+night+(7);");
        for (String other : new String[] {"oil", "at", "man", "boy", "tank", "pipes", "draw", "help", "lit", "or", "and", "x", ";", ")", "<", "%"}) {
            fault("help 1+" + other + ";", 2, 7);
            fault("help " + other + ";", 2, 5);
        }
    }

    /** A line that ends before its last TOKEN has its FAULT at the end. */
    private void cut(String line) {
        good(line);
        for (int length = 1; length < line.length(); length++) {
            String begun = line.substring(0, length);
            NightLights x = new NightLights();
            c.due("parish of '" + begun + "'", Check.tell(x, begun), -1);
            boolean word = line.charAt(length - 1) >= 'a' && line.charAt(length) >= 'a';
            if (!word) {
                fault(begun, 2, length);
            }
        }
    }

    private void words() {
        d.says(Document.TERMS, "words (a .. z, 8 at most)");
        good("boy z at 0 calm 0;boy abcdefgh at 0 calm 0;boy zzzzzzzz at 0 calm 0;");
        fault("boy abcdefghi at 0 calm 0;", 1, 4);
        fault("abcdefghijklmnopqrstuvwxyz", 1, 0);
        fault("aaaaaaaa", 2, 0);
        fault("boy a`", 1, 5);
        for (int other : new int[] {'A', 'Z', '`', '{', '_', 'a' + 128, 0}) {
            fault("boy " + (char) other, 1, 4);
        }
        d.says(Document.TERMS, "each is as long as can be");
        fault("manx at 1", 2, 0);
        fault("boyx at 4 calm 5;", 2, 0);
        fault("boy xat 4 calm 5;", 2, 8);
        fault("tank 1 2;", 2, 7);
        fault("help not1;", 0, -1);
        fault("help nota;", 2, 5);
        fault("help 1 orand 1;", 2, 7);
        good("help 1 or not(1);");
    }

    private void numbers() {
        d.says(Document.TERMS, "N (1 to 4 digits)");
        good("tank 0;");
        good("tank 9;draw 0999;pipes 0000;");
        c.due("0042 is 42", Check.told("tank 0042;").about(3), 42);
        good("help 9999;");
        fault("help 10000;", 1, 5);
        fault("help 00001;", 1, 5);
        fault("tank 00000000000000000001;", 1, 5);
        fault("tank 99999999999999999999999;", 1, 5);
        fault("tank 4294967297;", 1, 5);
        fault("tank :", 1, 5);
        fault("tank -1;", 2, 5);
        d.says(Document.TERMS, "no letter directly behind an N");
        fault("tank 5a;", 1, 5);
        fault("tank 5z;", 1, 5);
        fault("help 1or 2;", 1, 5);
        fault("help 1 or 2and 3;", 1, 10);
        fault("boy x at 4calm 5;", 1, 9);
        fault("tank 5 a;", 2, 7);
        fault("tank 5A;", 1, 6);
        good("help 1 or 2;");
        good("tank5;boy x at4 calm5;");
    }

    private void signsAndBlanks() {
        d.says(Document.TERMS, "signs ; ( ) < > = + - * / %");
        for (int b = 0; b < 256; b++) {
            boolean token = b >= 'a' && b <= 'z' || b >= '0' && b <= '9' || ";()<>=+-*/%".indexOf(b) >= 0;
            if (b != 32 && b != 10) {
                fault("tank 1;" + (char) b, token ? 2 : 1, 7);
            }
        }
        good("help(((1+2)-3*4)/5%6<7)=(8>9);");
        d.says(Document.TERMS, "blanks (32, 10) part them or not");
        good("\n tank \n\n 5 \n ; \n");
        good("help(1)or(2)and not(3);");
        good("help ( 1 ) or\n( 2 ) and not ( 3 ) ;");
        fault("tan k 5;", 2, 0);
        fault("ta\nnk 5;", 2, 0);
        c.due("digits that are parted are two", Check.tell(new NightLights(), "tank 1 2;"), -1);
        for (int other : new int[] {9, 11, 12, 13, 0, 160, 33, 31}) {
            fault("tank" + (char) other + "5;", 1, 4);
        }
    }

    private void names() {
        d.says(Document.TERMS, "Words that stand for themselves here are no NAMES.");
        String[] all = "man at fear age oil lit boy calm help tank pipes draw or and not far light night".split(" ");
        for (String word : all) {
            fault("man " + word + " at 1 fear 1 age 1;", 2, 4);
            fault("boy " + word + " at 1 calm 1;", 2, 4);
            good("man " + word + "s at 1 fear 1 age 1;");
            good("boy x" + word + " at 1 calm 1;");
        }
        good("boy e at 1 calm 1;boy one at 1 calm 1;boy n at 1 calm 1;boy unit at 1 calm 1;");
        fault("man ; at 1 fear 1 age 1;", 2, 4);
        fault("man 1 at 1 fear 1 age 1;", 2, 4);
        d.says(Document.TERMS, "3 a NAME told already (of its sort)");
        fault(MAN + MAN, 3, MAN.length() + 4);
        fault(BOY + BOY, 3, BOY.length() + 4);
        fault(MAN + "man b at 1 fear 1 age 1;man aa at 1 fear 1 age 1;man  b at 100", 3, MAN.length() + 24 + 25 + 5);
        good(MAN + "boy a at 1 calm 1;");
        good("boy a at 1 calm 1;" + MAN);
        good("man aaaaaaaa at 1 fear 1 age 1;man aaaaaaa at 1 fear 1 age 1;man baaaaaaa at 1 fear 1 age 1;man aaaaaaab at 1 fear 1 age 1;");
        NightLights x = Check.told(MAN);
        c.due("of the text before, it may be told", Check.tell(x, MAN), 1);
    }

    private static String men(int n) {
        StringBuilder lines = new StringBuilder();
        for (int i = 0; i < n; i++) {
            lines.append("man m").append((char) ('a' + i)).append(" at ").append(i).append(" fear 1 age 1;");
        }
        return lines.toString();
    }

    private static String boys(int n) {
        StringBuilder lines = new StringBuilder();
        for (int i = 0; i < n; i++) {
            lines.append("boy b").append((char) ('a' + i)).append(" at ").append(i).append(" calm 1;");
        }
        return lines.toString();
    }

    private void menTold() {
        d.says(Document.TERMS, "At most 6 MEN");
        c.due("six", Check.told(men(6)).about(0), 6);
        fault(men(7), 2, men(6).length());
        fault(men(6) + BOY + "\n man", 2, men(6).length() + BOY.length() + 2);
        d.says(Document.TERMS, "(at a PLACE 0 .. 99 of the lane, several may be at one; fear 0 .. 40; age 0 .. 99; oil 0 .. 20, 0 if not told)");
        NightLights x = Check.told("man a at 0 fear 0 age 0 oil 0;man b at 99 fear 40 age 99 oil 20 lit;man c at 99 fear 7 age 8;"
                + "man d at 99 fear 7 age 8 lit;");
        int[][] due = {{0, 0, 0, 0, 0}, {99, 40, 99, 20, 1}, {99, 7, 8, 0, 0}, {99, 7, 8, 0, 1}};
        for (int man = 0; man < due.length; man++) {
            for (int what = 0; what < due[man].length; what++) {
                c.due("man(" + man + ", " + what + ")", x.man(man, what), due[man][what]);
            }
        }
        fault("man a at 100 fear 0 age 0;", 4, 9);
        fault("man a at 9999 fear 0 age 0;", 4, 9);
        fault("man a at 0 fear 41 age 0;", 4, 16);
        fault("man a at 0 fear 0 age 100;", 4, 22);
        fault("man a at 0 fear 0 age 0 oil 21;", 4, 28);
        fault("man a at 0 fear 0 age 0 oil 99 lit;", 4, 28);
        fault("man a at 0 fear 0 age 0 oil;", 2, 27);
        fault("man a at 0 fear 0 age 0 oil lit;", 2, 28);
        fault("man a at 0 fear 0 age 0 lit oil 1;", 2, 28);
        fault("man a at 0 fear 0 age 0 oil 1 oil 1;", 2, 30);
    }

    private void boysTold() {
        d.says(Document.TERMS, "4 BOYS (at a PLACE 0 .. 99; calm 0 .. 30)");
        NightLights x = Check.told("boy a at 0 calm 0;boy b at 99 calm 30;boy c at 99 calm 7;boy d at 0 calm 30;");
        int[][] due = {{0, 0}, {99, 30}, {99, 7}, {0, 30}};
        for (int boy = 0; boy < due.length; boy++) {
            c.due("boy(" + boy + ", 0)", x.boy(boy, 0), due[boy][0]);
            c.due("boy(" + boy + ", 1)", x.boy(boy, 1), due[boy][1]);
        }
        fault(boys(5), 2, boys(4).length());
        fault(boys(4) + men(6) + "boy", 2, boys(4).length() + men(6).length());
        fault("boy a at 100 calm 0;", 4, 9);
        fault("boy a at 0 calm 31;", 4, 16);
        d.says(Document.TERMS, "numbered as told, each sort by itself");
        NightLights mixed = Check.told("boy z at 7 calm 1;man z at 9 fear 1 age 1;boy a at 8 calm 1;man a at 5 fear 1 age 1;");
        c.due("the first MAN", mixed.man(0, 0), 9);
        c.due("the second MAN", mixed.man(1, 0), 5);
        c.due("the first BOY", mixed.boy(0, 0), 7);
        c.due("the second BOY", mixed.boy(1, 0), 8);
    }

    private void onceEach() {
        d.says(Document.TERMS, "help, tank (0 .. 99; 0), pipes (0 .. 100 of 100; 0), draw (0 .. 999; 0) once each");
        NightLights not = Check.told(MAN + BOY);
        c.due("tank, not told", not.about(3), 0);
        c.due("pipes, not told", not.about(13), 0);
        c.due("draw, not told", not.about(5), 0);
        NightLights least = Check.told("tank 0;pipes 0;draw 0;");
        c.due("tank 0", least.about(3), 0);
        NightLights most = Check.told("tank 99;pipes 100;draw 999;");
        c.due("tank 99", most.about(3), 99);
        c.due("pipes 100", most.about(13), 100);
        c.due("draw 999", most.about(5), 999);
        fault("tank 100;", 4, 5);
        fault("pipes 101;", 4, 6);
        fault("draw 1000;", 4, 5);
        fault("tank 1;pipes 2;tank 1;", 2, 15);
        fault("pipes 1;tank 2;pipes 1;", 2, 15);
        fault("draw 1;draw 1;", 2, 7);
        fault("help 1;draw 0;help 1;", 2, 14);
        fault("draw 0;draw 0;", 2, 7);
        d.says(Document.TERMS, "(one of a sort too many or a second time: at the line's first word;");
        fault(men(6) + "man !", 2, men(6).length());
        fault(men(6) + "man ma at 1000", 2, men(6).length());
        fault(boys(4) + "boy", 2, boys(4).length());
        fault("tank 1;tank 1000;", 2, 7);
        fault("tank 1; \n tank !", 2, 10);
        fault("help 1;help help", 2, 7);
        fault("pipes 1;pipes", 2, 8);
    }

    private void units() {
        d.says(Document.TERMS, "60 units in all, 30 in one e");
        String thirty = "1" + "+1".repeat(29);
        c.due("30 units", Check.told("help " + thirty + ";").about(11), 30);
        fault("help " + thirty + "+1;", 2, 5 + 60);
        c.due("not counts for none", Check.told("help not " + thirty + ";").about(11), 30);
        c.due("( e ) is one, and what is in it", Check.told("help (" + "1" + "+1".repeat(28) + ");").about(11), 30);
        d.says(Document.TERMS, "a unit too many, what is within 7 others: at its first TOKEN, or the not);");
        fault("help (" + thirty + ");", 2, 5 + 1 + 58);
        fault("help " + thirty + "+(1);", 2, 5 + 60);
        fault("help " + thirty + " or not fear;", 2, 5 + 59 + 8);
        fault("help " + thirty + "+1000a;", 1, 5 + 60);
        fault("help " + thirty + "+);", 2, 5 + 60);
        fault("help 1" + " and 1".repeat(30) + ";", 2, 5 + 6 * 30);
        fault("help 1" + " or 1".repeat(30) + ";", 2, 5 + 5 * 30);
        fault("help 1" + "*1".repeat(30) + ";", 2, 5 + 2 * 30);
        fault("help 1" + "=1 or 1".repeat(15) + ";", 2, 5 + 7 * 15);
    }

    private void nested() {
        d.says(Document.TERMS, "(a unit ( e ), or a one behind not, within 6 others at most)");
        String open = "(".repeat(7);
        String close = ")".repeat(7);
        good("help " + open + "1" + close + ";");
        good("help " + open + "1" + close + "*" + open + "1" + close + ";");
        good("help " + "not ".repeat(7) + "1;");
        good("help " + "not ".repeat(7) + "1<2 and " + "not ".repeat(7) + "1;");
        good("help " + "not(".repeat(3) + "not fear" + ")".repeat(3) + ";");
        good("help " + "(not ".repeat(3) + "(1)" + ")".repeat(3) + ";");
        d.says(Document.TERMS, "what is within 7 others: at its first TOKEN, or the not");
        fault("help (" + open + "1)" + close + ";", 2, 12);
        fault("help " + "not ".repeat(8) + "1;", 2, 5 + 28);
        fault("help " + open + "not 1" + close + ";", 2, 12);
        fault("help " + open + "1+(1)" + close + ";", 2, 14);
        fault("help " + "not ".repeat(7) + "(1);", 2, 5 + 28);
        fault("help 1+" + open + "1" + close + "+" + open + "(1)" + close + ";", 2, 5 + 2 + 15 + 1 + 7);
        String deep = "help " + "(".repeat(1500);
        fault(deep, 2, 12);
        fault("help " + "not ".repeat(390), 2, 33);
    }

    private void firstFault() {
        d.says(Document.TERMS, "FAULTS, the first by its place (bytes from 0; the end: the text's length), at one place the least");
        fault("!", 1, 0);
        fault("tank 100;pipes 101;", 4, 5);
        fault("tank 5;pipes 101;!", 4, 13);
        fault("tank 5 !", 1, 7);
        fault("tank 5", 2, 6);
        fault("tank 5 \n ", 2, 9);
        fault("tank", 2, 4);
        fault("man a at 100 !", 4, 9);
        fault(MAN + "man a at 100", 3, MAN.length() + 4);
        fault("tank 99999;", 1, 5);
        fault("tank A;", 1, 5);
        d.says(Document.TERMS, "2 one that can't stand there");
        fault("tank ;", 2, 5);
        fault("tank tank;", 2, 5);
        fault("help 1 ) ;", 2, 7);
        fault("help (1;", 2, 7);
        fault("help (;", 2, 6);
        fault("help (+1);", 2, 6);
        fault("help (1+);2", 2, 8);
        fault("help (or 1);", 2, 6);
        fault("help not or 1;", 2, 9);
        fault("help (1 2);", 2, 8);
        fault("help 1<2<3;", 2, 8);
        fault("help 1=2>3;", 2, 8);
        fault("help 1+not 2;", 2, 7);
        fault("help 1<not 2;", 2, 7);
        fault("help -1;", 2, 5);
        fault("help oil;", 2, 5);
        fault("help lit;", 2, 5);
        fault("help tank;", 2, 5);
        fault("help;", 2, 4);
        fault("boy x calm 5 at 4;", 2, 6);
        fault("boy x at 4 calm 5 lit;", 2, 18);
        fault("man a at 1 fear 2;", 2, 17);
        fault("tank 5;;", 2, 7);
        d.says(Document.TERMS, "4 a number that can't be.");
        fault("draw 1000", 4, 5);
        fault("pipes 0101;", 4, 6);
        good("pipes 0100;");
        good("help 1000;");
    }
}
