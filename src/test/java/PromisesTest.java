/** Each promise by hand: ordinary inputs, the edges that the document names, and wrong inputs. */
public final class PromisesTest {
    private static final Check C = new Check();
    private static final String LANE = "man dean at 10 fear 8 age 60 oil 2 lit;man vicar at 4 fear 5 age 50;"
            + "man clerk at 20 fear 12 age 41 oil 1;boy tim at 6 calm 9;boy ned at 18 calm 14;"
            + "tank 10;pipes 30;draw 7;";

    public static void main(String[] args) {
        tapeAndParish();
        faults();
        formulas();
        manBoyHelp();
        nights();
        acts();
        undoAndRedo();
        foreseen();
        sending();
        rounds();
        twelve();
        stableAndJealous();
        burningAndNeed();
        leastAndHome();
        rivals();
        trade();
        sets();
        lawAndOdds();
        seen();
        ask();
        images();
        about();
        fullHouse();
        C.finish();
    }

    private static void tapeAndParish() {
        C.part("1..4 new object, feed, end, parish");
        NightLights x = new NightLights();
        for (int what = 0; what <= 13; what++) {
            C.due("new about(" + what + ")", x.about(what), 0);
        }
        C.due("fault(0)", x.fault(0), 0);
        C.due("fault(1)", x.fault(1), -1);
        C.due("fault(2)", x.fault(2), -1);
        C.due("fault(-1)", x.fault(-1), -1);
        C.due("end(0)", x.end(0), 0);
        C.due("end(1)", x.end(1), -1);
        C.due("end(-1)", x.end(-1), -1);
        for (int i = 1; i <= 80; i++) {
            C.due("feed", x.feed(0x20202020, 0x20202020, 0x20202020, 0x20202020, 0x20202020), 20 * i);
        }
        C.due("feed beyond", x.feed(0, 0, 0, 0, 0), -1);
        C.due("about(10)", x.about(10), 1600);
        C.due("end(1581)", x.end(1581), 1581);
        C.due("feed beyond by one", x.feed(0, 0, 0, 0, 0), -1);
        C.due("end(1582)", x.end(1582), -1);
        C.due("end(1580)", x.end(1580), 1580);
        C.due("feed to the full", x.feed(0x20202020, 0x20202020, 0x20202020, 0x20202020, 0x2020200a), 1600);
        C.due("blanks alone", x.parish(), 0);
        C.due("tape is empty then", x.about(10), 0);

        C.due("a parish", Check.tell(x, LANE), 3);
        x.later(5);
        x.send(0, 1);
        x.night();
        x.seen(1, true);
        x.stable();
        x.image(2);
        C.due("a FAULT", Check.tell(x, "boy b at 1 calm 1;tank 100;"), -1);
        C.due("the tape stays", x.about(10), 27);
        C.due("MEN stay", x.about(0), 3);
        C.due("BOYS stay", x.about(1), 2);
        C.due("night stays", x.about(4), 1);
        C.due("ACTS stay", x.about(6), 2);
        C.due("SEEN stays", x.about(8), 1);
        C.due("what lies stays", x.about(12), 3);
        C.due("SENT stays", x.man(1, 5), 0);
        C.due("fault(0)", x.fault(0), 4);
        C.due("fault(1)", x.fault(1), 23);
        C.due("box stays", x.back(2), 1);
        C.due("again", x.parish(), -1);
        C.due("cut to what is good", x.end(18), 18);
        C.due("told anew", x.parish(), 0);
        C.due("fault(0) of the latest", x.fault(0), 0);
        C.due("fault(1) of the latest", x.fault(1), -1);
        int[] after = {0, 1, 0, 0, 0, 0, 0, 0, 0, 5, 0, 0, 0, 0};
        for (int what = 0; what < after.length; what++) {
            C.due("then about(" + what + ")", x.about(what), after[what]);
        }
        C.due("boxes are empty", x.back(2), -1);
        C.due("highest byte first", new NightLights().feed(0x74616e6b, 0x20373b20, 0x20202020, 0x20202020, 0x20202020), 20);
        NightLights y = new NightLights();
        y.feed(0x74616e6b, 0x20373b20, 0x20202020, 0x20202020, 0x20202020);
        C.due("tank 7;", y.parish(), 0);
        C.due("tank", y.about(3), 7);
    }

    private static void fault(String text, int fault, int place) {
        NightLights x = new NightLights();
        int answer = Check.tell(x, text);
        String shown = text.length() > 60 ? text.substring(0, 60) + ".." : text;
        C.due("parish of '" + shown + "'", answer < 0 ? -1 : 0, fault == 0 ? 0 : -1);
        C.due("fault(0) of '" + shown + "'", x.fault(0), fault);
        C.due("fault(1) of '" + shown + "'", x.fault(1), place);
    }

    private static String times(String text, int n) {
        return text.repeat(n);
    }

    private static void faults() {
        C.part("5 fault");
        fault("", 0, -1);
        fault(" \n ", 0, -1);
        fault("\t", 1, 0);
        fault("tank 1;!", 1, 7);
        fault("Man a", 1, 0);
        fault("man A", 1, 4);
        fault("tank 1\u00e9;", 1, 6);
        fault("man", 2, 3);
        fault("man  ", 2, 5);
        fault("abcdefgh", 2, 0);
        fault("abcdefghi", 1, 0);
        fault("man abcdefghi at 1 fear 1 age 1;", 1, 4);
        fault("man abcdefgh at 1 fear 1 age 1;", 0, -1);
        fault("tank 12345;", 1, 5);
        fault("tank 1234;", 4, 5);
        fault("tank 0099;", 0, -1);
        fault("tank 5a;", 1, 5);
        fault("tank 100a;", 1, 5);
        fault("tank5;", 0, -1);
        fault("tank5 ;pipes\n7;draw 3;", 0, -1);
        fault(";", 2, 0);
        fault("5", 2, 0);
        fault("fear", 2, 0);
        fault("man 5", 2, 4);
        for (String word : "man at fear age oil lit boy calm help tank pipes draw or and not far light night".split(" ")) {
            fault("boy " + word + " at 1 calm 1;", 2, 4);
        }
        fault("boy one at 1 calm 1;boy e at 2 calm 2;boy name at 3 calm 3;", 0, -1);
        fault("man a at 99 fear 40 age 99 oil 20 lit;", 0, -1);
        fault("man a at 100 fear 40 age 99;", 4, 9);
        fault("man a at 0 fear 41 age 99;", 4, 16);
        fault("man a at 0 fear 40 age 100;", 4, 23);
        fault("man a at 0 fear 0 age 0 oil 21;", 4, 28);
        fault("man a at 0 fear 0 age 0 lit oil 2;", 2, 28);
        fault("man a at 0 fear 0 age 0 lit lit;", 2, 28);
        fault("man a at 0 age 0 fear 0;", 2, 11);
        fault("man a at 0 fear 0 age 0", 2, 23);
        fault("man a at 0 fear 0;", 2, 17);
        fault("boy a at 99 calm 30;", 0, -1);
        fault("boy a at 100 calm 30;", 4, 9);
        fault("boy a at 9 calm 31;", 4, 16);
        fault("boy a at 9 calm 3 lit;", 2, 18);
        fault("pipes 100;", 0, -1);
        fault("pipes 101;", 4, 6);
        fault("draw 999;", 0, -1);
        fault("draw 1000;", 4, 5);
        fault("tank 99;", 0, -1);
        fault("tank 1;tank 2;", 2, 7);
        fault("pipes 1;pipes 2;", 2, 8);
        fault("draw 1;draw !", 2, 7);
        fault("help 1;help 1;", 2, 7);
        fault("man a at 1 fear 1 age 1;man a at 1 fear 1 age 1;", 3, 28);
        fault("man a at 1 fear 1 age 1;boy a at 1 calm 1;", 0, -1);
        fault("boy a at 1 calm 1;boy a at 1 calm 1;", 3, 22);
        String men = "man a at 1 fear 1 age 1;man b at 1 fear 1 age 1;man c at 1 fear 1 age 1;"
                + "man d at 1 fear 1 age 1;man f at 1 fear 1 age 1;man g at 1 fear 1 age 1;";
        fault(men, 0, -1);
        fault(men + "man", 2, men.length());
        fault(men + " man a at 100", 2, men.length() + 1);
        String boys = "boy a at 1 calm 1;boy b at 1 calm 1;boy c at 1 calm 1;boy d at 1 calm 1;";
        fault(boys, 0, -1);
        fault(boys + "boy a", 2, boys.length());
        formulaFaults();
    }

    private static void formulaFaults() {
        fault("help;", 2, 4);
        fault("help 1", 2, 6);
        fault("help 1 2;", 2, 7);
        fault("help 1+;", 2, 7);
        fault("help +1;", 2, 5);
        fault("help 1<2<3;", 2, 8);
        fault("help (1<2)<3;", 0, -1);
        fault("help 1+not 2;", 2, 7);
        fault("help not;", 2, 8);
        fault("help ();", 2, 6);
        fault("help (1;", 2, 7);
        fault("help 1);", 2, 6);
        fault("help oil;", 2, 5);
        fault("help tim;", 2, 5);
        fault("help 1 & 2;", 1, 7);
        fault("help 9999;", 0, -1);
        fault("help 10000;", 1, 5);
        fault("help 1or 2;", 1, 5);
        fault("help fear<3and 2;", 1, 10);
        fault("help(1)and(2)or not(3);", 0, -1);
        fault("help " + times("(", 7) + "1" + times(")", 7) + ";", 0, -1);
        fault("help " + times("(", 8) + "1" + times(")", 8) + ";", 2, 12);
        fault("help " + times("not ", 7) + "1;", 0, -1);
        fault("help " + times("not ", 8) + "1;", 2, 33);
        fault("help " + times("not(", 3) + "not 1" + times(")", 3) + ";", 0, -1);
        fault("help " + times("not(", 3) + "not(1)" + times(")", 3) + ";", 2, 20);
        fault("help " + times("not(", 3) + "not not 1" + times(")", 3) + ";", 2, 21);
        fault("help " + times("(", 7) + "1" + times(")", 7) + "+" + times("(", 7) + "1" + times(")", 7) + ";", 0, -1);
        fault("help 1" + times("+1", 29) + ";", 0, -1);
        fault("help 1" + times("+1", 30) + ";", 2, 5 + 60);
        fault("help (1)" + times("+1", 28) + ";", 0, -1);
        fault("help (1)" + times("+1", 29) + ";", 2, 5 + 3 + 2 * 28 + 1);
        fault("help 1" + times("+1", 29) + "+(1);", 2, 5 + 60);
        fault("help 1" + times("+1", 29) + "+;", 2, 5 + 60);
        fault("help 1" + times("+1", 29) + "+1!;", 2, 5 + 60);
        String nots = times("not ", 7) + "1";
        fault("help " + nots + times(" or " + nots, 29) + ";", 0, -1);
        fault("help " + nots + times(" or " + nots, 30) + ";", 2, 5 + 29 + 29 * 33 + 4 + 28);
    }

    private static int helpBy(String formula) {
        return Check.told("man m at 10 fear 7 age 50 oil 1 lit;boy b at 4 calm 9;help " + formula + ";").help(0, 0);
    }

    private static void formula(String formula, int want) {
        C.due("help " + formula, helpBy(formula), want);
    }

    private static void formulas() {
        C.part("8 help, by formulas");
        formula("fear", 7);
        formula("age", 50);
        formula("calm", 9);
        formula("far", 6);
        formula("light", 1);
        formula("night", 0);
        formula("1+2*3", 7);
        formula("(1+2)*3", 9);
        formula("10-3-2", 5);
        formula("40/4/5", 2);
        formula("17%10%4", 3);
        formula("7/2", 3);
        formula("(0-7)/2+10", 7);
        formula("(0-7)%3+10", 9);
        formula("7%(0-3)", 1);
        formula("5/0+1", 1);
        formula("5%0+1", 1);
        formula("not 0", 1);
        formula("not 5", 0);
        formula("not not 5", 1);
        formula("not 1<2", 0);
        formula("not(1)+1", 0);
        formula("2 and 4", 1);
        formula("2 and 0", 0);
        formula("0 or 4", 1);
        formula("0 or 0", 0);
        formula("1 or 1 and 0", 1);
        formula("(1 or 1)and 0", 0);
        formula("3<4", 1);
        formula("4<4", 0);
        formula("4>3", 1);
        formula("4>4", 0);
        formula("4=4", 1);
        formula("4=5", 0);
        formula("1+1=2", 1);
        formula("5*(2<3)", 5);
        formula("0-5", 0);
        formula("99", 99);
        formula("100", 99);
        formula("9999*9999*9999", 0);
        formula("0-9999*9999*9999", 99);
        formula("(9999*9999*9999<0)*5", 5);
        String least = "(0-2048*1024*1024)";
        formula("(" + least + "<0)+(" + least + "-1>0)", 2);
        formula(least + "/(0-1)<0", 1);
        formula(least + "%(0-1)=0", 1);
        C.due("units", Check.told("help (1+2)*fear;").about(11), 4);
        NightLights x = Check.told("man m at 10 fear 7 age 50;boy b at 4 calm 9;help night*10+fear;");
        x.night();
        C.due("by night and FEAR as they are", x.help(0, 0), 18);
        C.due("not told", Check.told("man m at 10 fear 7 age 50;boy b at 4 calm 9;").help(0, 0), 3);
        C.due("not told, far", Check.told("man m at 10 fear 7 age 50;boy b at 30 calm 9;").help(0, 0), 0);
        NightLights y = Check.told("help 5;man m at 10 fear 7 age 50;boy b at 4 calm 9;");
        Check.tell(y, "man m at 10 fear 7 age 50;boy b at 4 calm 9;");
        C.due("not told any more", y.help(0, 0), 3);
        C.due("units then", y.about(11), 0);
        NightLights z = Check.told("help calm*light;man m at 10 fear 7 age 50 lit;boy b at 4 calm 9;tank 3;");
        C.due("LIT without OIL", z.help(0, 0), 0);
        z.pour(0, 1);
        C.due("LIGHT", z.help(0, 0), 9);
        z.snuff(0);
        C.due("OIL, not LIT", z.help(0, 0), 0);
    }

    private static void manBoyHelp() {
        C.part("6..9 man, boy, help, sleepers");
        NightLights x = Check.told(LANE);
        int[][] men = {{10, 8, 60, 2, 1, -1, 3}, {4, 5, 50, 0, 0, -1, 0}, {20, 12, 41, 1, 0, -1, 0}};
        for (int man = 0; man < 3; man++) {
            for (int what = 0; what < 7; what++) {
                C.due("man(" + man + ", " + what + ")", x.man(man, what), men[man][what]);
            }
        }
        C.due("man(3, 0)", x.man(3, 0), -2);
        C.due("man(-1, 0)", x.man(-1, 0), -2);
        C.due("man(0, 7)", x.man(0, 7), -2);
        C.due("man(0, -1)", x.man(0, -1), -2);
        C.due("boy(0, 0)", x.boy(0, 0), 6);
        C.due("boy(0, 1)", x.boy(0, 1), 9);
        C.due("boy(0, 2)", x.boy(0, 2), -1);
        C.due("boy(0, 3)", x.boy(0, 3), -2);
        C.due("boy(0, -1)", x.boy(0, -1), -2);
        C.due("boy(2, 0)", x.boy(2, 0), -2);
        C.due("boy(-1, 0)", x.boy(-1, 0), -2);
        C.due("help(2, 0)", x.help(2, 0), -1);
        C.due("help(0, 3)", x.help(0, 3), -1);
        C.due("help(-1, 0)", x.help(-1, 0), -1);
        C.due("help(0, -1)", x.help(0, -1), -1);
        C.due("sleepers()", x.sleepers(), 0);
        x.send(1, 0);
        C.due("man(0, 5)", x.man(0, 5), 1);
        C.due("man(0, 6)", x.man(0, 6), 9);
        C.due("boy(1, 2)", x.boy(1, 2), 0);
        C.due("sleepers()", x.sleepers(), 1);
        C.due("EASE as much as FEAR", Check.told("man a at 1 fear 3 age 1 oil 1 lit;man b at 1 fear 0 age 1;").sleepers(), 3);
        C.due("EASE too small", Check.told("man a at 1 fear 4 age 1 oil 1 lit;man b at 1 fear 1 age 1;").sleepers(), 0);
    }

    private static void nights() {
        C.part("10 night");
        NightLights x = Check.told("man a at 0 fear 3 age 1 oil 2 lit;man b at 0 fear 0 age 1;man c at 0 fear 5 age 1 oil 3;"
                + "man d at 0 fear 9 age 1 lit;pipes 0;draw 7;");
        C.due("night()", x.night(), 3);
        C.due("FEAR less", x.man(0, 1), 2);
        C.due("FEAR 0 at least", x.man(1, 1), 0);
        C.due("FEAR more", x.man(2, 1), 6);
        C.due("OIL burnt", x.man(0, 3), 1);
        C.due("OIL of one not LIT", x.man(2, 3), 3);
        C.due("OIL 0 stays", x.man(3, 3), 0);
        C.due("FEAR of the dark", x.man(3, 1), 10);
        // 7 -> 30 -> 181 -> 868 -> 987
        C.due("SEED", x.about(5), 987);
        C.due("the night", x.about(4), 1);
        x.night();
        C.due("out of OIL", x.man(0, 3), 0);
        C.due("still LIT", x.man(0, 4), 1);
        C.due("asleep", x.night(), 2);
        C.due("awake then", x.man(0, 1), 2);

        NightLights y = Check.told("man a at 0 fear 0 age 1;man b at 0 fear 8 age 1;pipes 31;draw 7;");
        // rests 30 (knocks), 81 (does not)
        y.night();
        C.due("a pipe knocks", y.man(0, 1), 2);
        C.due("none knocks", y.man(1, 1), 9);
        NightLights edge = Check.told("man a at 0 fear 0 age 1;pipes 30;draw 7;");
        edge.night();
        C.due("rest as much as pipes", edge.man(0, 1), 0);
        NightLights loud = Check.told("man a at 0 fear 40 age 1;pipes 100;");
        for (int i = 0; i < 19; i++) {
            loud.night();
        }
        C.due("FEAR by knocks", loud.man(0, 1), 97);
        loud.night();
        C.due("FEAR 99 at most", loud.man(0, 1), 99);
        loud.night();
        C.due("FEAR 99 still", loud.man(0, 1), 99);
        NightLights none = new NightLights();
        C.due("without MEN", none.night(), 0);
        C.due("the night", none.about(4), 1);
        for (int i = 1; i < 999; i++) {
            none.night();
        }
        C.due("999 of them", none.about(4), 999);
        C.due("behind 999 of them", none.night(), -1);
        C.due("doing nothing", none.about(4), 999);
        none.undo();
        C.due("998 of them", none.night(), 0);
    }

    private static void acts() {
        C.part("11..15 send, recall, light, snuff, pour");
        NightLights x = Check.told(LANE);
        C.due("send(2, 0)", x.send(2, 0), -1);
        C.due("send(-1, 0)", x.send(-1, 0), -1);
        C.due("send(0, 3)", x.send(0, 3), -1);
        C.due("send(0, -1)", x.send(0, -1), -1);
        C.due("recall(0)", x.recall(0), -1);
        C.due("recall(2)", x.recall(2), -1);
        C.due("recall(-1)", x.recall(-1), -1);
        C.due("no ACTS", x.about(6), 0);
        C.due("send(0, 0)", x.send(0, 0), 8);
        C.due("send(0, 1)", x.send(0, 1), -1);
        C.due("send(1, 0)", x.send(1, 0), -1);
        C.due("recall(0)", x.recall(0), 0);
        C.due("recall(0)", x.recall(0), -1);
        C.due("man(0, 5)", x.man(0, 5), -1);
        C.due("send(0, 1)", x.send(0, 1), 7);
        C.due("three ACTS", x.about(6), 3);
        C.due("light(0)", x.light(0), -1);
        C.due("light(1)", x.light(1), 0);
        C.due("light(2)", x.light(2), 1);
        C.due("light(3)", x.light(3), -1);
        C.due("light(-1)", x.light(-1), -1);
        C.due("LIT", x.about(2), 7);
        C.due("snuff(0)", x.snuff(0), 2);
        C.due("snuff(0)", x.snuff(0), -1);
        C.due("snuff(3)", x.snuff(3), -1);
        C.due("snuff(-1)", x.snuff(-1), -1);
        C.due("LIT", x.about(2), 6);
        C.due("pour(1, 0)", x.pour(1, 0), -1);
        C.due("pour(1, 11)", x.pour(1, 11), -1);
        C.due("pour(1, -1)", x.pour(1, -1), -1);
        C.due("pour(3, 1)", x.pour(3, 1), -1);
        C.due("pour(-1, 1)", x.pour(-1, 1), -1);
        C.due("pour(0, 10)", x.pour(0, 10), 12);
        C.due("tank", x.about(3), 0);
        C.due("pour(0, 1)", x.pour(0, 1), -1);
        NightLights y = Check.told("man a at 1 fear 1 age 1 oil 15;man b at 1 fear 1 age 1;tank 99;");
        C.due("pour(0, 6)", y.pour(0, 6), -1);
        C.due("pour(0, 5)", y.pour(0, 5), 20);
        C.due("pour(1, 21)", y.pour(1, 21), -1);
        C.due("pour(1, 20)", y.pour(1, 20), 20);
        C.due("tank", y.about(3), 74);
        C.due("two ACTS", y.about(6), 2);
    }

    private static void undoAndRedo() {
        C.part("16, 17 undo, redo");
        NightLights x = Check.told(LANE);
        C.due("undo()", x.undo(), false);
        C.due("redo()", x.redo(), false);
        x.send(0, 1);
        x.light(2);
        x.pour(0, 3);
        x.night();
        C.due("FEAR", x.man(1, 1), 4);
        C.due("OIL", x.man(0, 3), 4);
        C.due("undo the night", x.undo(), true);
        C.due("FEAR", x.man(1, 1), 5);
        C.due("OIL", x.man(0, 3), 5);
        C.due("SEED", x.about(5), 7);
        C.due("night", x.about(4), 0);
        C.due("undo pour", x.undo(), true);
        C.due("tank", x.about(3), 10);
        C.due("undo light", x.undo(), true);
        C.due("LIT", x.about(2), 1);
        C.due("undo send", x.undo(), true);
        C.due("SENT", x.boy(0, 2), -1);
        C.due("undo()", x.undo(), false);
        C.due("to redo", x.about(7), 4);
        for (int i = 0; i < 4; i++) {
            C.due("redo()", x.redo(), true);
        }
        C.due("redo()", x.redo(), false);
        C.due("SEED", x.about(5), 868);
        C.due("OIL", x.man(0, 3), 4);
        x.undo();
        x.undo();
        C.due("an act that can't be", x.light(2), -1);
        C.due("leaves what can be redone", x.about(7), 2);
        x.snuff(2);
        C.due("another ACT", x.about(7), 0);
        C.due("redo()", x.redo(), false);
        C.due("ACTS", x.about(6), 3);

        NightLights y = Check.told("man a at 1 fear 0 age 1;");
        for (int i = 0; i < 45; i++) {
            y.night();
        }
        C.due("40 are kept", y.about(6), 40);
        for (int i = 0; i < 40; i++) {
            C.due("undo()", y.undo(), true);
        }
        C.due("the oldest are gone", y.undo(), false);
        C.due("night", y.about(4), 5);
        C.due("to redo", y.about(7), 40);
        for (int i = 0; i < 40; i++) {
            y.redo();
        }
        C.due("night", y.about(4), 45);
    }

    private static void foreseen() {
        C.part("18..20 will, asleep, calm");
        NightLights x = Check.told("man a at 0 fear 3 age 1 oil 2 lit;man b at 0 fear 5 age 1;boy x at 0 calm 5;pipes 31;draw 7;");
        C.due("will(0, 0, 0)", x.will(0, 0, 0), 3);
        C.due("will(0, 1, 0)", x.will(0, 1, 0), 2);
        C.due("will(0, 2, 0)", x.will(0, 2, 0), 1);
        C.due("will(0, 3, 0)", x.will(0, 3, 0), 2);
        C.due("will(0, 60, 0)", x.will(0, 60, 0), 59);
        C.due("will(1, 60, 0)", x.will(1, 60, 0), 65);
        // SEEDS 30 (a knock), 181, 868, 987, 290, 801 (a knock), 808 (a knock), 767, 150, 621, 148, 347
        C.due("will(0, 1, 1)", x.will(0, 1, 1), 4);
        C.due("will(0, 2, 1)", x.will(0, 2, 1), 5);
        C.due("will(1, 2, 1)", x.will(1, 2, 1), 7);
        C.due("will(1, 3, 1)", x.will(1, 3, 1), 10);
        C.due("will(0, 4, 1)", x.will(0, 4, 1), 9);
        C.due("will(0, 61, 0)", x.will(0, 61, 0), -1);
        C.due("will(0, -1, 0)", x.will(0, -1, 0), -1);
        C.due("will(0, 1, 2)", x.will(0, 1, 2), -1);
        C.due("will(0, 1, -1)", x.will(0, 1, -1), -1);
        C.due("will(2, 1, 0)", x.will(2, 1, 0), -1);
        C.due("will(-1, 1, 0)", x.will(-1, 1, 0), -1);
        C.due("nothing is done", x.about(4), 0);
        C.due("FEAR stays", x.man(0, 1), 3);
        C.due("asleep(0)", x.asleep(0), -1);
        C.due("asleep(1)", x.asleep(1), 1);
        C.due("asleep(2)", x.asleep(2), 1);
        C.due("asleep(3)", x.asleep(3), 0);
        C.due("asleep(60)", x.asleep(60), 0);
        C.due("asleep(61)", x.asleep(61), -1);
        C.due("calm()", x.calm(), -1);
        x.send(0, 1);
        C.due("calm() now", x.calm(), 0);
        C.due("nobody SENT", Check.told("man a at 0 fear 1 age 1;boy b at 0 calm 1;").calm(), -1);

        NightLights y = Check.told("man a at 0 fear 10 age 1;boy b at 0 calm 1;help (night>3)*99;");
        y.send(0, 0);
        C.due("calm() behind 4", y.calm(), 4);
        C.due("asleep(4)", y.asleep(4), 0);
        C.due("asleep(5)", y.asleep(5), 1);
        NightLights late = Check.told("man a at 0 fear 10 age 1;boy b at 0 calm 1;help (night=60)*99;");
        late.send(0, 0);
        C.due("calm() behind 60", late.calm(), 60);
        NightLights later = Check.told("man a at 0 fear 10 age 1;boy b at 0 calm 1;help (night=61)*99;");
        later.send(0, 0);
        C.due("calm() behind 61", later.calm(), -1);
        C.due("calm() without MEN", new NightLights().calm(), 0);
        NightLights quiet = Check.told("man a at 0 fear 12 age 1;boy b at 0 calm 1;help (night>0)*13;pipes 100;");
        quiet.send(0, 0);
        C.due("calm(), no pipe knocks", quiet.calm(), 1);
        C.due("asleep(2), no pipe knocks", quiet.asleep(2), 1);
    }

    private static void sending() {
        C.part("21 sending");
        NightLights x = Check.told(LANE);
        C.due("sending(0)", x.sending(0), 2);
        C.lying("sending(0)", x, -1, 0, 1);
        x.round(-1);
        C.due("sending(1)", x.sending(1), 19);
        C.lying("sending(1)", x, -1, 0, 1);
        C.due("sending(2)", x.sending(2), -1);
        C.due("sending(-1)", x.sending(-1), -1);
        x.send(1, 1);
        C.due("anew", x.sending(0), 2);
        C.due("nothing is done", x.boy(1, 2), 1);
        NightLights like = Check.told("man a at 0 fear 1 age 1;man b at 0 fear 1 age 1;man c at 0 fear 1 age 1;"
                + "boy x at 0 calm 1;boy y at 0 calm 1;");
        C.due("like ones", like.sending(0), 2);
        C.lying("like ones", like, 0, 1, -1);
        NightLights few = Check.told("man a at 0 fear 9 age 1;man b at 0 fear 2 age 1;boy x at 0 calm 5;");
        C.due("SLEEP before HELP", few.sending(0), 1);
        C.lying("few", few, -1, 0);
        NightLights more = Check.told("man a at 0 fear 1 age 1;man b at 1 fear 1 age 1;boy x at 1 calm 5;");
        C.due("most HELP of like ones", more.sending(1), 5);
        C.lying("more", more, -1, 0);
        NightLights lit = Check.told("man a at 0 fear 3 age 1 oil 1 lit;man b at 0 fear 5 age 1;boy x at 0 calm 5;");
        C.due("who SLEEPS by his light", lit.sending(0), 2);
        C.lying("lit", lit, -1, 0);
        NightLights bold = Check.told("man a at 0 fear 0 age 1;man b at 0 fear 5 age 1;boy x at 0 calm 5;");
        C.due("who SLEEPS by himself", bold.sending(0), 2);
        C.lying("bold", bold, -1, 0);
        NightLights zero = Check.told("man a at 0 fear 9 age 1;boy x at 9 calm 5;boy y at 9 calm 5;");
        C.due("a BOY goes before none", zero.sending(1), 0);
        C.lying("zero", zero, 0);
    }

    private static void rounds() {
        C.part("22 round");
        NightLights x = Check.told(LANE);
        C.due("round(0)", x.round(0), 18);
        C.lying("round(0)", x, 1, 0, 2);
        C.due("round(2)", x.round(2), -1);
        C.lying("round(2)", x);
        x.round(0);
        C.due("round(-1)", x.round(-1), -1);
        C.lying("round(-1)", x);
        NightLights like = Check.told("man a at 7 fear 1 age 1;man b at 3 fear 1 age 1;man c at 7 fear 1 age 1;boy x at 5 calm 1;");
        C.due("like ones", like.round(0), 6);
        C.lying("like ones", like, 0, 2, 1);
        NightLights none = Check.told("boy x at 5 calm 1;");
        C.due("without MEN", none.round(0), 0);
        C.lying("without MEN", none);
        NightLights pass = Check.told("man a at 9 fear 1 age 1;man b at 1 fear 1 age 1;man c at 5 fear 1 age 1;boy x at 0 calm 1;");
        C.due("on the way", pass.round(0), 9);
        C.lying("on the way", pass, 1, 2, 0);
    }

    private static void twelve() {
        C.part("23 twelve");
        NightLights x = Check.told("man a at 10 fear 1 age 1;man b at 4 fear 1 age 1;man c at 6 fear 1 age 1;"
                + "man d at 14 fear 1 age 1;boy x at 8 calm 1;");
        C.due("twelve(0, 0, 0)", x.twelve(0, 0, 0), 0);
        C.due("twelve(0, 0, 1)", x.twelve(0, 0, 1), 0);
        C.due("twelve(0, 1, 0)", x.twelve(0, 1, 0), 0);
        C.due("like ones", x.twelve(0, 2, 1), 1);
        C.due("two of like ones", x.twelve(0, 4, 1), 6);
        C.due("two", x.twelve(0, 4, 0), 2);
        C.due("there and back", x.twelve(0, 8, 1), 7);
        C.due("not all", x.twelve(0, 13, 0), 3);
        C.due("all", x.twelve(0, 14, 0), 4);
        C.due("all", x.twelve(0, 999, 1), 15);
        C.due("twelve(0, 1000, 0)", x.twelve(0, 1000, 0), -1);
        C.due("twelve(0, -1, 0)", x.twelve(0, -1, 0), -1);
        C.due("twelve(0, 1, 2)", x.twelve(0, 1, 2), -1);
        C.due("twelve(0, 1, -1)", x.twelve(0, 1, -1), -1);
        C.due("twelve(1, 1, 0)", x.twelve(1, 1, 0), -1);
        C.due("twelve(-1, 1, 0)", x.twelve(-1, 1, 0), -1);
        C.due("without MEN", Check.told("boy x at 1 calm 1;").twelve(0, 9, 0), 0);
    }

    private static void stableAndJealous() {
        C.part("24, 25 stable, jealous");
        // Both MEN would have the calm one; he would rather have the nearer one.
        NightLights x = Check.told("man a at 5 fear 9 age 1;man b at 2 fear 9 age 1;boy x at 1 calm 20;boy y at 9 calm 10;");
        C.due("stable()", x.stable(), 2);
        C.lying("stable()", x, 1, 0);
        C.due("nobody SENT", x.jealous(0), 4);
        C.due("least MAN", x.jealous(1), 0);
        C.due("least BOY", x.jealous(2), 0);
        x.send(0, 0);
        x.send(1, 1);
        C.due("stable() anew", x.stable(), 2);
        C.lying("stable() anew", x, 1, 0);
        // b has 3 of y and 19 of x, to whom b is less FAR; a has 16 of x and 6 of y.
        C.due("jealous(0)", x.jealous(0), 1);
        C.due("jealous(1)", x.jealous(1), 1);
        C.due("jealous(2)", x.jealous(2), 0);
        C.due("jealous(3)", x.jealous(3), -1);
        C.due("jealous(-1)", x.jealous(-1), -1);
        x.recall(0);
        x.recall(1);
        x.send(0, 1);
        x.send(1, 0);
        C.due("none", x.jealous(0), 0);
        C.due("none", x.jealous(1), -1);
        C.due("none", x.jealous(2), -1);
        NightLights no = Check.told("man a at 5 fear 9 age 1;boy x at 9 calm 4;");
        C.due("none of whom he has none", no.stable(), 0);
        C.lying("none", no, -1);
        C.due("not more than 0", no.jealous(0), 0);
        NightLights like = Check.told("man a at 6 fear 9 age 1;man b at 4 fear 9 age 1;boy x at 5 calm 9;boy y at 5 calm 9;");
        C.due("like ones", like.stable(), 2);
        C.lying("like ones", like, 0, 1);
        like.send(0, 1);
        C.due("as FAR is not less FAR, as much HELP is not more", like.jealous(0), 1);
        C.due("the other BOY", like.jealous(2), 1);
        NightLights chain = Check.told("man a at 9 fear 9 age 1;man b at 5 fear 9 age 1;man c at 0 fear 9 age 1;"
                + "boy x at 4 calm 30;boy y at 20 calm 25;");
        // a asks x (25 of x, 14 of y); b asks x, who is nearer: a is refused, asks y; c asks x, y and has none.
        C.due("a chain", chain.stable(), 2);
        C.lying("a chain", chain, 1, 0, -1);
        NightLights back = Check.told("man a at 15 fear 9 age 1;man b at 25 fear 9 age 1;man c at 10 fear 9 age 1;"
                + "boy x at 10 calm 30;boy y at 20 calm 22;");
        // x leaves a for c; a then asks y, who has b as FAR from him: the lesser number stays.
        C.due("as FAR, the lesser number", back.stable(), 2);
        C.lying("as FAR, the lesser number", back, 1, -1, 0);
        NightLights one = Check.told("man a at 0 fear 9 age 1;boy x at 0 calm 1;");
        C.due("HELP of 1", one.stable(), 1);
        C.due("without MEN", new NightLights().stable(), 0);
    }

    private static void burningAndNeed() {
        C.part("26, 27 burning, need");
        NightLights x = Check.told("man a at 0 fear 3 age 1 oil 2;man b at 0 fear 0 age 1 oil 9 lit;man c at 0 fear 5 age 1 oil 9 lit;");
        C.due("burning(0, 3, 0)", x.burning(0, 3, 0), 2);
        C.due("burning(0, 3, 1)", x.burning(0, 3, 1), 3);
        C.due("burning(0, 0, 0)", x.burning(0, 0, 0), 0);
        C.due("burning(0, 0, 1)", x.burning(0, 0, 1), 0);
        C.due("without light", x.burning(1, 8, 0), 8);
        C.due("the fewest", x.burning(1, 8, 1), 0);
        C.due("too afraid", x.burning(2, 8, 0), 0);
        C.due("too afraid", x.burning(2, 8, 1), 0);
        C.due("burning(0, 9, 0)", x.burning(0, 9, 0), -1);
        C.due("burning(0, -1, 0)", x.burning(0, -1, 0), -1);
        C.due("burning(0, 1, 2)", x.burning(0, 1, 2), -1);
        C.due("burning(0, 1, -1)", x.burning(0, 1, -1), -1);
        C.due("burning(3, 1, 0)", x.burning(3, 1, 0), -1);
        C.due("burning(-1, 1, 0)", x.burning(-1, 1, 0), -1);
        // From fear 3: three lit nights bring him to 0, and he sleeps on without.
        NightLights y = Check.told("man a at 0 fear 3 age 1 oil 8;");
        C.due("three nights are enough", y.burning(0, 8, 0), 8);
        C.due("the first three", y.burning(0, 8, 1), 7);
        NightLights z = Check.told("man a at 0 fear 12 age 1 oil 1;boy x at 0 calm 9;help calm+(night=2)*2;");
        z.send(0, 0);
        // He lies awake (12, 13 of 9 and 9), third night 14 of 11 and a light.
        C.due("his BOY as now, and the night", z.burning(0, 3, 0), 1);
        C.due("on the first", z.burning(0, 3, 1), 1);
        NightLights w = Check.told("man a at 0 fear 14 age 1 oil 1;boy x at 0 calm 9;help calm+(night=2)*4;");
        w.send(0, 0);
        C.due("the third night", w.burning(0, 3, 0), 1);
        C.due("the third night", w.burning(0, 3, 1), 4);
        NightLights v = Check.told("man a at 0 fear 2 age 1 oil 1;");
        C.due("one of two nights", v.burning(0, 2, 0), 1);
        C.due("the least set", v.burning(0, 2, 1), 1);
        C.due("need(0)", x.need(0), 0);
        C.due("need(7)", x.need(7), 14);
        C.due("need(60)", x.need(60), 120);
        C.due("need(61)", x.need(61), -1);
        C.due("need(-1)", x.need(-1), -1);
        x.snuff(1);
        C.due("LIT as now", x.need(7), 7);
    }

    private static void leastAndHome() {
        C.part("28, 30 least, home");
        NightLights x = Check.told(LANE);
        C.due("least(0, 0)", x.least(0, 0), 9);
        C.due("least(0, 1)", x.least(0, 1), 7);
        x.send(0, 0);
        C.due("in place of whom he has", x.least(1, 0), 13);
        C.due("least(2, 0)", x.least(2, 0), -1);
        C.due("least(-1, 0)", x.least(-1, 0), -1);
        C.due("least(0, 3)", x.least(0, 3), -1);
        C.due("least(0, -1)", x.least(0, -1), -1);
        NightLights far = Check.told("man a at 99 fear 1 age 1;man b at 98 fear 1 age 1;man c at 0 fear 0 age 1;boy x at 0 calm 1;");
        C.due("by none", far.least(0, 0), -1);
        C.due("by 99", far.least(0, 1), 99);
        C.due("by 0", far.least(0, 2), 0);
        NightLights odd = Check.told("man a at 0 fear 5 age 1;boy x at 0 calm 1;help (calm=17)*9+(calm>40)*9;");
        C.due("the least one", odd.least(0, 0), 17);
        C.due("home(0, 0)", x.home(0, 0), 4);
        C.due("home(0, 1)", x.home(0, 1), 12);
        C.due("home(0, 2)", x.home(0, 2), -1);
        C.due("home(0, -1)", x.home(0, -1), -1);
        C.due("home(2, 0)", x.home(2, 0), -1);
        C.due("home(-1, 0)", x.home(-1, 0), -1);
        NightLights end = Check.told("man a at 99 fear 5 age 1;boy x at 0 calm 9;");
        C.due("the last PLACE", end.home(0, 0), 99);
        C.due("HELP there", end.home(0, 1), 9);
        NightLights same = Check.told("man a at 99 fear 5 age 1;boy x at 50 calm 9;help 7;");
        C.due("of like ones the least", same.home(0, 0), 0);
        C.due("HELP there", same.home(0, 1), 7);
        NightLights none = Check.told("boy x at 7 calm 9;");
        C.due("without MEN", none.home(0, 0), 0);
        C.due("without MEN", none.home(0, 1), 0);
    }

    private static void rivals() {
        C.part("29 rivals");
        NightLights x = Check.told(LANE);
        C.due("rivals(0, 1)", x.rivals(0, 1), 1);
        C.lying("rivals(0, 1)", x, 1, 2);
        C.due("rivals(1, 0)", x.rivals(1, 0), 1);
        C.lying("rivals(1, 0)", x, 2, 1);
        C.due("both are one", x.rivals(1, 1), -1);
        C.lying("behind NONE", x);
        C.due("rivals(0, 2)", x.rivals(0, 2), -1);
        C.due("rivals(-1, 0)", x.rivals(-1, 0), -1);
        x.send(0, 1);
        C.due("one is SENT", x.rivals(0, 1), -1);
        C.due("the other is SENT", x.rivals(1, 0), -1);
        // Two like BOYS and two like MEN: the first one of the call wins where both go to one.
        String two = "man a at 5 fear 9 age 1;man b at 5 fear 9 age 1;boy x at 0 calm 9;boy y at 0 calm 9;boy z at 0 calm 9;";
        NightLights like = Check.told(two);
        C.due("like ones", like.rivals(0, 1), 2);
        C.lying("like ones", like, 0, 1);
        like.send(2, 0);
        C.due("one MAN is left", like.rivals(0, 1), 1);
        C.lying("one MAN is left", like, 1, 1);
        NightLights full = Check.told("man a at 5 fear 9 age 1;boy x at 0 calm 9;boy y at 0 calm 9;boy z at 0 calm 9;");
        full.send(0, 0);
        C.due("every MAN has one", full.rivals(1, 2), -1);
        C.due("without MEN", Check.told("boy x at 0 calm 9;boy y at 0 calm 9;").rivals(0, 1), -1);
        // HELP of both: 1 to a, 9 to b. The calmer one goes to b, the other one then to a.
        String prized = "man a at 1 fear 9 age 1;man b at 9 fear 9 age 1;boy x at 0 calm 5;boy y at 0 calm 6;help far;";
        NightLights calmer = Check.told(prized);
        C.due("the calmer one", calmer.rivals(0, 1), 1);
        C.lying("the calmer one", calmer, 0, 1);
        NightLights tied = Check.told(prized.replace("calm 6", "calm 5"));
        C.due("the first of both", tied.rivals(0, 1), 1);
        C.lying("the first of both", tied, 1, 0);
        C.due("the first of both", tied.rivals(1, 0), 1);
        C.lying("the first of both", tied, 1, 0);
        NightLights evenly = Check.told("man a at 10 fear 9 age 1;man b at 20 fear 9 age 1;boy x at 10 calm 9;boy y at 20 calm 8;"
                + "help (calm=9)*5+(calm=8)*5;");
        C.due("as many as there are", evenly.rivals(0, 1), 2);
        NightLights nothing = Check.told("man a at 10 fear 9 age 1;man b at 20 fear 9 age 1;boy x at 10 calm 0;boy y at 20 calm 0;help 0;");
        C.due("all are RESTS", nothing.rivals(0, 1), 4);
        C.lying("the least numbers", nothing, 0, 0);
    }

    private static void trade() {
        C.part("31 trade");
        NightLights x = Check.told("man a at 0 fear 5 age 1;man b at 9 fear 5 age 1;man c at 20 fear 5 age 1;man d at 5 fear 0 age 1;"
                + "boy x at 9 calm 5;boy y at 0 calm 5;boy z at 20 calm 5;");
        C.due("none SENT", x.trade(0), -1);
        x.send(0, 0);
        C.due("one SENT", x.trade(0), -1);
        x.send(1, 1);
        x.send(2, 2);
        C.due("trade(0)", x.trade(0), 0);
        C.due("trade(1)", x.trade(1), 1);
        C.due("trade(2)", x.trade(2), 4);
        C.due("trade(3)", x.trade(3), -1);
        C.due("trade(-1)", x.trade(-1), -1);
        C.due("nothing is done", x.boy(0, 2), 0);
        x.recall(0);
        x.recall(1);
        x.send(0, 1);
        x.send(1, 0);
        C.due("none is better", x.trade(0), -1);
        C.due("none is better", x.trade(2), -1);
        NightLights ring = Check.told("man a at 0 fear 5 age 1;man b at 20 fear 5 age 1;man c at 40 fear 5 age 1;"
                + "boy x at 20 calm 5;boy y at 40 calm 5;boy z at 0 calm 5;");
        ring.send(0, 0);
        ring.send(1, 1);
        ring.send(2, 2);
        C.due("of like ones the first", ring.trade(0), 0);
        C.due("of like ones the first", ring.trade(1), 1);
        C.due("one more", ring.trade(2), 1);
        NightLights lit = Check.told("man a at 0 fear 8 age 1 oil 1 lit;man b at 20 fear 5 age 1;boy x at 20 calm 5;boy y at 0 calm 5;");
        lit.send(0, 0);
        lit.send(1, 1);
        C.due("by his light, too", lit.trade(2), 2);
    }

    private static void sets() {
        C.part("32..38 idle, dark, glow, blest, timid, nearest, between");
        NightLights x = Check.told("man a at 10 fear 3 age 1 lit;man b at 20 fear 9 age 1 oil 1 lit;man c at 30 fear 9 age 1;"
                + "man d at 30 fear 0 age 1 oil 1;boy x at 25 calm 10;boy y at 15 calm 10;");
        C.due("idle()", x.idle(), 3);
        C.due("dark()", x.dark(), 1);
        C.due("glow()", x.glow(), 1);
        C.due("blest()", x.blest(), -1);
        C.due("timid()", x.timid(), 1);
        C.due("nearest(0)", x.nearest(0), 1);
        C.due("nearest(1)", x.nearest(1), 0);
        C.due("nearest(2)", x.nearest(2), -1);
        C.due("nearest(-1)", x.nearest(-1), -1);
        C.due("nearest without MEN", Check.told("boy x at 1 calm 1;").nearest(0), -1);
        C.due("timid without MEN", new NightLights().timid(), -1);
        x.send(1, 2);
        C.due("idle()", x.idle(), 1);
        C.due("blest() of 0", x.blest(), 2);
        x.send(0, 0);
        C.due("blest() of like ones", x.blest(), 0);
        C.due("idle()", x.idle(), 0);
        x.recall(1);
        x.send(1, 1);
        C.due("blest()", x.blest(), 1);
        C.due("between(10, 20)", x.between(10, 20), 3);
        C.due("between(20, 10)", x.between(20, 10), 3);
        C.due("between(30, 30)", x.between(30, 30), 12);
        C.due("between(11, 19)", x.between(11, 19), 0);
        C.due("between(0, 99)", x.between(0, 99), 15);
        C.due("between(-1, 99)", x.between(-1, 99), -1);
        C.due("between(99, -1)", x.between(99, -1), -1);
        C.due("between(0, 100)", x.between(0, 100), -1);
        C.due("between(100, 0)", x.between(100, 0), -1);
        NightLights y = Check.told("man a at 0 fear 9 age 1 oil 3;man b at 0 fear 9 age 1 oil 3 lit;boy x at 0 calm 1;help 2+light*4;");
        C.due("glow() of 3", y.glow(), 0);
        y.send(0, 0);
        C.due("in help, too", y.glow(), 1);
        y.light(0);
        C.due("he SLEEPS now", y.glow(), 0);
        C.due("sleepers()", y.sleepers(), 1);
    }

    private static void lawAndOdds() {
        C.part("39, 40 law, odds");
        NightLights x = Check.told("man a at 10 fear 8 age 1 oil 1 lit;man b at 4 fear 5 age 1;man c at 4 fear 5 age 1;boy x at 4 calm 1;help fear+(fear<5)-2;");
        C.due("law(0)", x.law(0), 3);
        C.due("law(3)", x.law(3), 1);
        C.due("law(4)", x.law(4), 0);
        x.send(0, 0);
        C.due("in help, too", x.law(50), 1);
        C.due("law(99)", x.law(99), 1);
        x.recall(0);
        x.send(0, 1);
        C.due("a HELP that is too small", x.law(50), 0);
        C.due("law(100)", x.law(100), -1);
        C.due("law(-1)", x.law(-1), -1);
        C.due("FEAR stays", x.man(0, 1), 8);
        int[][] odds = {{0, 0, 1, 1}, {30, 0, 1, 1}, {30, 1, 7, 10}, {30, 2, 49, 100}, {50, 3, 1, 8}, {1, 4, 96059601, 100000000},
            {100, 0, 1, 1}, {100, 1, 0, 1}, {100, 4, 0, 1}, {0, 4, 1, 1}, {36, 2, 256, 625}, {99, 4, 1, 100000000}};
        for (int[] each : odds) {
            NightLights y = Check.told("man a at 0 fear 1 age 1;man b at 0 fear 1 age 1;pipes " + each[0] + ";");
            C.due("pipes " + each[0] + " odds(" + each[1] + ", 0)", y.odds(each[1], 0), each[2]);
            C.due("pipes " + each[0] + " odds(" + each[1] + ", 1)", y.odds(each[1], 1), each[3]);
        }
        C.due("odds(5, 0)", x.odds(5, 0), -1);
        C.due("odds(-1, 0)", x.odds(-1, 0), -1);
        C.due("odds(1, 2)", x.odds(1, 2), -1);
        C.due("odds(1, -1)", x.odds(1, -1), -1);
    }

    private static void seen() {
        C.part("42..46 seen, untell, later, fits, sure");
        NightLights none = new NightLights();
        C.due("no MEN", none.seen(1, true), -1);
        C.due("fits(0)", none.fits(0), 0);
        C.due("sure(0, 0)", none.sure(0, 0), -1);
        C.due("ask(0, 0)", none.ask(0, 0), -1);
        // Of the last MAN, two oil: fears 0 .. 3 SLEEP on night 1, and by then are less.
        NightLights x = Check.told("man z at 0 fear 7 age 1;man a at 0 fear 9 age 1 oil 2 lit;boy x at 0 calm 30;pipes 100;");
        C.due("fits(0)", x.fits(0), 41);
        C.due("sure(0, 0)", x.sure(0, 0), 0);
        C.due("sure(1, 0)", x.sure(1, 0), 40);
        C.due("sure(2, 0)", x.sure(2, 0), -1);
        C.due("sure(-1, 0)", x.sure(-1, 0), -1);
        C.due("seen(0, true)", x.seen(0, true), -1);
        C.due("seen(13, true)", x.seen(13, true), -1);
        x.send(0, 1);
        x.night();
        x.snuff(1);
        C.due("later(10)", x.later(10), 10);
        C.due("seen(1, true)", x.seen(1, true), 0);
        C.due("fits(9)", x.fits(9), 41);
        C.due("fits(10)", x.fits(10), 4);
        C.due("sure(1, 10)", x.sure(1, 10), 3);
        C.due("later(5)", x.later(5), 15);
        // Without light from night 3 on, only 0 .. 2 have come to 0.
        C.due("seen(3, false)", x.seen(3, false), 1);
        C.due("fits(14)", x.fits(14), 4);
        C.due("fits(15)", x.fits(15), 1);
        C.due("sure(0, 15)", x.sure(0, 15), 3);
        C.due("sure(1, 15)", x.sure(1, 15), 3);
        x.later(5);
        C.due("untell(0)", x.untell(0), true);
        C.due("untell(0)", x.untell(0), false);
        C.due("untell(2)", x.untell(2), false);
        C.due("untell(-1)", x.untell(-1), false);
        C.due("before it was UNTOLD", x.fits(19), 1);
        C.due("at the TIME it was UNTOLD", x.fits(20), 38);
        C.due("seen(12, true)", x.seen(12, true), 2);
        C.due("none FITS", x.fits(20), 0);
        C.due("none FITS", x.sure(0, 20), -1);
        C.due("none FITS", x.sure(1, 20), -1);
        C.due("none FITS", x.ask(0, 20), -1);
        C.due("UNTOLD at the same TIME", x.untell(2), true);
        C.due("it never counted", x.fits(20), 38);
        C.due("fits before all", x.fits(-5), 41);
        C.due("fits at the end", x.fits(Integer.MAX_VALUE), 38);
        for (int i = 3; i < 30; i++) {
            C.due("seen", x.seen(2, false), i);
        }
        C.due("there are 30", x.seen(2, false), -1);
        C.due("SEEN", x.about(8), 30);
        C.due("later(-1)", x.later(-1), -1);
        C.due("later(1001)", x.later(1001), -1);
        C.due("later(0)", x.later(0), 20);
        for (int i = 0; i < 99; i++) {
            x.later(1000);
        }
        C.due("later(981)", x.later(981), -1);
        C.due("later(980)", x.later(980), 100000);
        C.due("later(1)", x.later(1), -1);
        C.due("the TIME", x.about(9), 100000);
    }

    private static void ask() {
        C.part("47 ask");
        NightLights x = Check.told("man a at 0 fear 9 age 1 oil 2 lit;");
        // Night 1, 2: 0 .. 3 sleep; night 3 on: 0 .. 2.
        C.due("ask(0, 0)", x.ask(0, 0), 1);
        C.due("ask(1, 0)", x.ask(1, 0), 37);
        C.due("ask(2, 0)", x.ask(2, 0), -1);
        C.due("ask(-1, 0)", x.ask(-1, 0), -1);
        x.seen(2, true);
        C.due("ask(0, 0)", x.ask(0, 0), 3);
        C.due("ask(1, 0)", x.ask(1, 0), 3);
        C.due("as known before", x.ask(0, -1), 1);
        NightLights y = Check.told("man a at 0 fear 9 age 1;");
        y.seen(12, true);
        C.due("one is left", y.ask(1, 0), 1);
        C.due("the first NIGHT", y.ask(0, 0), 1);
    }

    private static void images() {
        C.part("48, 49 image, back");
        NightLights x = Check.told(LANE);
        C.due("back(0)", x.back(0), -1);
        C.due("image(3)", x.image(3), -1);
        C.due("image(-1)", x.image(-1), -1);
        C.due("back(3)", x.back(3), -1);
        C.due("back(-1)", x.back(-1), -1);
        x.send(0, 1);
        x.light(2);
        x.pour(1, 4);
        x.night();
        C.due("image(2)", x.image(2), 1);
        int[] kept = all(x);
        x.recall(0);
        x.send(0, 0);
        x.snuff(2);
        x.pour(2, 2);
        x.night();
        C.due("image(0)", x.image(0), 2);
        x.undo();
        C.due("back(2)", x.back(2), 1);
        int[] now = all(x);
        for (int i = 0; i < kept.length; i++) {
            C.due("as it was kept " + i, now[i], kept[i]);
        }
        C.due("no ACTS", x.about(6), 0);
        C.due("none to redo", x.about(7), 0);
        C.due("undo()", x.undo(), false);
        C.due("back(1)", x.back(1), -1);
        C.due("gone on from", x.night() >= 0, true);
        C.due("undone", x.undo(), true);
        C.due("to the image", x.about(4), 1);
        C.due("back(0)", x.back(0), 2);
        C.due("back(2) again", x.back(2), 1);
    }

    private static void fullHouse() {
        C.part("six MEN and four BOYS");
        StringBuilder lines = new StringBuilder("tank 99;");
        for (char c : "abcdfg".toCharArray()) {
            lines.append("man ").append(c).append(" at 99 fear 5 age 1 lit;");
        }
        for (char c : "abcd".toCharArray()) {
            lines.append("boy ").append(c).append(" at 0 calm 5;");
        }
        NightLights x = Check.told(lines + "help calm;");
        C.due("about(0)", x.about(0), 6);
        C.due("about(1)", x.about(1), 4);
        C.due("about(2)", x.about(2), 63);
        C.due("dark()", x.dark(), 63);
        C.due("glow()", x.glow(), 0);
        C.due("idle()", x.idle(), 15);
        C.due("timid()", x.timid(), 0);
        C.due("blest()", x.blest(), -1);
        C.due("nearest(3)", x.nearest(3), 0);
        C.due("between(99, 99)", x.between(99, 99), 63);
        C.due("sending(0)", x.sending(0), 4);
        C.lying("sending(0)", x, 0, 1, 2, 3, -1, -1);
        C.due("sending(1)", x.sending(1), 20);
        C.due("stable()", x.stable(), 4);
        C.lying("stable()", x, 0, 1, 2, 3, -1, -1);
        C.due("jealous(0)", x.jealous(0), 24);
        C.due("round(3)", x.round(3), 99);
        C.lying("round(3)", x, 0, 1, 2, 3, 4, 5);
        C.due("twelve(3, 98, 1)", x.twelve(3, 98, 1), 0);
        C.due("twelve(3, 99, 1)", x.twelve(3, 99, 1), 63);
        C.due("rivals(2, 3)", x.rivals(2, 3), 30);
        C.lying("rivals(2, 3)", x, 0, 1);
        C.due("home(3, 1)", x.home(3, 1), 30);
        C.due("need(60)", x.need(60), 360);
        C.due("calm()", x.calm(), -1);
        C.due("law(5)", x.law(5), 0);
        for (int boy = 0; boy < 4; boy++) {
            C.due("send", x.send(boy, 5 - boy), 5);
        }
        C.due("sleepers()", x.sleepers(), 60);
        C.due("trade(0)", x.trade(0), -1);
        C.due("blest()", x.blest(), 2);
        C.due("law(5)", x.law(5), 4);
        C.due("night()", x.night(), 60);
        C.due("fits(0)", x.fits(0), 41);
        x.seen(1, false);
        C.due("sure(0, 0)", x.sure(0, 0), 1);
        C.due("pour(5, 20)", x.pour(5, 20), 20);
        C.due("burning(5, 8, 0)", x.burning(5, 8, 0), 8);
        C.due("burning(0, 8, 0)", x.burning(0, 8, 0), 0);
        C.due("image(2)", x.image(2), 1);
        C.due("undo()", x.undo(), true);
        C.due("back(2)", x.back(2), 1);
        C.due("man(5, 3)", x.man(5, 3), 20);
    }

    private static int[] all(NightLights x) {
        int[] rows = new int[24];
        int n = 0;
        for (int man = 0; man < 3; man++) {
            for (int what : new int[] {1, 3, 4, 5, 6}) {
                rows[n++] = x.man(man, what);
            }
        }
        rows[n++] = x.boy(0, 2);
        rows[n++] = x.boy(1, 2);
        rows[n++] = x.about(3);
        rows[n++] = x.about(4);
        rows[n++] = x.about(5);
        return rows;
    }

    private static void about() {
        C.part("41, 50 lies, about");
        NightLights x = Check.told(LANE + "help calm-far+1;");
        C.due("lies(0)", x.lies(0), -2);
        x.later(3);
        x.send(0, 0);
        x.light(2);
        x.pour(0, 4);
        x.night();
        x.undo();
        x.seen(1, true);
        x.seen(1, true);
        x.untell(0);
        x.stable();
        x.feed(0, 0, 0, 0, 0);
        int[] want = {3, 2, 5, 6, 0, 7, 3, 1, 2, 3, 20, 3, 3, 30};
        for (int what = 0; what < want.length; what++) {
            C.due("about(" + what + ")", x.about(what), want[what]);
        }
        C.due("about(14)", x.about(14), -1);
        C.due("about(-1)", x.about(-1), -1);
        C.due("lies(-1)", x.lies(-1), -2);
        C.due("lies(3)", x.lies(3), -2);
        C.due("lies(min)", x.lies(Integer.MIN_VALUE), -2);
        C.due("NONE", NightLights.NONE, -1);
    }
}
