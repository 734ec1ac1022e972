/** Boundary cases of what is and of what is done, sentence by sentence: ==== 2, promises 6 to 17, 48 and 49. */
final class ActEdges {
    private static final String LANE = "man dean at 10 fear 8 age 60 oil 2 lit;man vicar at 4 fear 5 age 50;"
            + "man clerk at 20 fear 12 age 41 oil 1;boy tim at 6 calm 9;boy ned at 18 calm 14;"
            + "tank 10;pipes 30;draw 7;";

    private final Check c;
    private final Document d;

    ActEdges(Check c, Document d) {
        this.c = c;
        this.d = d;
    }

    void all() {
        atFirst();
        lightAndFar();
        binding();
        formula();
        helpBounds();
        ease();
        man();
        boy();
        help();
        sleepers();
        fearInANight();
        oilInANight();
        seedInANight();
        nightAnswers();
        send();
        recall();
        light();
        snuff();
        pour();
        undo();
        redo();
        kept();
        image();
        back();
    }

    private static NightLights lane() {
        return Check.told(LANE);
    }

    private void atFirst() {
        d.says(Document.TERMS, "A MAN has a FEAR (as told, at first), OIL, is LIT or not (as told, at first)");
        NightLights x = lane();
        int[][] due = {{8, 2, 1}, {5, 0, 0}, {12, 1, 0}};
        for (int man = 0; man < 3; man++) {
            c.due("FEAR", x.man(man, 1), due[man][0]);
            c.due("OIL", x.man(man, 3), due[man][1]);
            c.due("LIT", x.man(man, 4), due[man][2]);
        }
        d.says(Document.TERMS, "A BOY is SENT to a MAN, or to none (at first), one at most to each.");
        c.due("to none", x.boy(0, 2), -1);
        c.due("to none", x.boy(1, 2), -1);
        c.due("none", x.man(0, 5), -1);
        x.send(0, 0);
        c.refuses(x, "a second one to him", () -> x.send(1, 0));
        d.says(Document.TERMS, "night (0 at first;");
        c.due("night", Check.told(LANE).about(4), 0);
        NightLights by = Check.told("man a at 0 fear 1 age 1;boy x at 0 calm 1;help night+5;");
        c.due("help by night 0", by.help(0, 0), 5);
        by.night();
        c.due("help by night 1", by.help(0, 0), 6);
        d.says(Document.TERMS, "then the SEED (draw, at first)");
        c.due("SEED", x.about(5), 7);
        d.says(Document.TERMS, "OIL is poured out of the tank (as told, at first) to a MAN (20 at most)");
        c.due("tank", x.about(3), 10);
        NightLights full = Check.told("man a at 0 fear 1 age 1 oil 19;man b at 0 fear 1 age 1 oil 20;man c at 0 fear 1 age 1;tank 99;");
        c.refuses(full, "21", () -> full.pour(0, 2));
        c.refuses(full, "21", () -> full.pour(1, 1));
        c.due("20", full.pour(0, 1), 20);
        c.due("20 at once", full.pour(2, 20), 20);
        c.due("out of the tank", full.about(3), 78);
    }

    private void lightAndFar() {
        d.says(Document.TERMS, "he has LIGHT if he is LIT and has OIL");
        NightLights x = Check.told("man a at 0 fear 1 age 1;man b at 0 fear 1 age 1 lit;man c at 0 fear 1 age 1 oil 1;"
                + "man d at 0 fear 1 age 1 oil 1 lit;boy x at 0 calm 1;help light*50;");
        int[] help = {0, 0, 0, 50};
        int[] ease = {0, 0, 0, 3};
        for (int man = 0; man < 4; man++) {
            c.due("help(0, " + man + ")", x.help(0, man), help[man]);
            c.due("man(" + man + ", 6)", x.man(man, 6), ease[man]);
        }
        d.says(Document.TERMS, "FAR are a BOY's PLACE and a MAN's: the steps between both");
        NightLights y = Check.told("man a at 0 fear 1 age 1;man b at 99 fear 1 age 1;man c at 50 fear 1 age 1;"
                + "boy x at 0 calm 1;boy y at 99 calm 1;boy z at 50 calm 1;help far;");
        int[][] far = {{0, 99, 50}, {99, 0, 49}, {50, 49, 0}};
        for (int boy = 0; boy < 3; boy++) {
            for (int man = 0; man < 3; man++) {
                c.due("far(" + boy + ", " + man + ")", y.help(boy, man), far[boy][man]);
            }
        }
        d.says(Document.TERMS, "(calm - far, if it is not told)");
        NightLights z = Check.told("man a at 0 fear 1 age 1;man b at 99 fear 1 age 1;boy x at 0 calm 30;boy y at 98 calm 1;boy z at 97 calm 1;");
        c.due("not FAR at all", z.help(0, 0), 30);
        c.due("too FAR", z.help(0, 1), 0);
        c.due("just as FAR", z.help(1, 1), 0);
        c.due("one too FAR", z.help(2, 1), 0);
        c.due("no units", z.about(11), 0);
    }

    private void by(String formula, int want) {
        NightLights x = Check.told("man m at 10 fear 7 age 50 oil 1 lit;boy b at 4 calm 9;help " + formula + ";");
        c.due("help " + formula, x.help(0, 0), want);
    }

    private void binding() {
        d.says(Document.TERMS, "e = both {or both}. both = one {and one}. one = not one | sum [(< | > | =) sum]. sum = term {(+ | -) term}. term = unit {(* | / | %) unit}.");
        by("1+2*3", 7);
        by("2*3+1", 7);
        by("20-12/4", 17);
        by("20-7-3", 10);
        by("20-7+3", 16);
        by("40/4/5", 2);
        by("40/4*5", 50);
        by("17%10%4", 3);
        by("17%10*4", 28);
        by("4*17%10", 8);
        by("1+1<3", 1);
        by("3>1+1", 1);
        by("2*3=3+3", 1);
        by("1 or 1 and 0", 1);
        by("0 and 1 or 1", 1);
        by("(1 or 1)and 0", 0);
        by("1<2 and 2<3", 1);
        by("1<2 and 3<2 or 4=4", 1);
        by("not 1 or 1", 1);
        by("not 0 and 0", 0);
        by("not 1+1", 0);
        by("not 0*5", 1);
        by("not not not 0", 1);
        by("(not 0)+(1 or 0)*5", 6);
        String nots = "not ".repeat(7);
        by(nots + "1" + (" or " + nots + "1").repeat(28) + " or " + nots + "0", 1);
        by(nots + "0" + (" and " + nots + "0").repeat(28) + " and " + nots + "1", 0);
        by("1" + "+(1".repeat(7) + ")".repeat(7) + "+1".repeat(15), 23);
        d.says(Document.TERMS, "by fear (the MAN's FEAR), age, calm, far");
        by("fear", 7);
        by("age", 50);
        by("calm", 9);
        by("far", 6);
    }

    private void formula() {
        d.says(Document.TERMS, "light (1 if the MAN has LIGHT, else 0)");
        by("light*7", 7);
        c.due("else 0", Check.told("man m at 1 fear 1 age 1 lit;boy b at 4 calm 9;help 4+light;").help(0, 0), 4);
        d.says(Document.TERMS, "ints, wrapping;");
        String most = "(2048*1024*1024-1)";
        String least = "(2048*1024*1024)";
        by("(" + most + ">0)*5", 5);
        by("(" + most + "+1<0)*5", 5);
        by("(" + least + "<0)*5", 5);
        by("(" + least + "-1>0)*5", 5);
        by("(0-" + least + "=" + least + ")*5", 5);
        by("(4096*1024*1024=0)*5", 5);
        by("(" + most + "*2=0-2)*5", 5);
        by("(" + least + "/(0-1)=" + least + ")*5", 5);
        by("(" + least + "%(0-1)=0)*5", 5);
        d.says(Document.TERMS, "/ cut, % its rest, both by 0: 0;");
        by("7/2", 3);
        by("(0-7)/2+9", 6);
        by("7/(0-2)+9", 6);
        by("(0-7)/(0-2)", 3);
        by("7%4", 3);
        by("(0-7)%4+9", 6);
        by("7%(0-4)", 3);
        by("(0-7)%(0-4)+9", 6);
        by("7/0+5", 5);
        by("7%0+5", 5);
        by("(0-7)/0+5", 5);
        by("(0-7)%(2-2)+5", 5);
        by("0/0+5", 5);
        d.says(Document.TERMS, "relations, and, or, not are 1 or 0, of what is not 0");
        by("(3<4)+(4<4)+(5<4)", 1);
        by("(3>4)+(4>4)+(5>4)", 1);
        by("(3=4)+(4=4)+(5=4)", 1);
        by("(2 and 4)+(2 and 0)+(0 and 4)+(0 and 0)", 1);
        by("(2 or 4)+(2 or 0)+(0 or 4)+(0 or 0)", 3);
        by("((0-1)and(0-1))*8", 8);
        by("((0-1)or 0)*8", 8);
        by("(not 0)*8+(not 5)*20+(not(0-1))*40", 8);
        by("not not 7", 1);
        by("not 7<3", 1);
    }

    private void helpBounds() {
        d.says(Document.TERMS, "0 at least, 99 at most.");
        by("98", 98);
        by("99", 99);
        by("100", 99);
        by("9999*9999", 99);
        by("0", 0);
        by("0-1", 0);
        by("0-9999*9999", 0);
        by("2048*1024*1024-1", 99);
        by("2048*1024*1024", 0);
    }

    private void ease() {
        d.says(Document.TERMS, "(0 of none) and 3 more if he has LIGHT");
        NightLights x = Check.told("man a at 0 fear 9 age 1;man b at 0 fear 9 age 1 oil 1 lit;boy x at 0 calm 5;");
        c.due("none, no LIGHT", x.man(0, 6), 0);
        c.due("none, LIGHT", x.man(1, 6), 3);
        c.due("one, LIGHT", x.send(0, 1), 8);
        x.snuff(1);
        c.due("one, no LIGHT", x.man(1, 6), 5);
        NightLights most = Check.told("man a at 0 fear 9 age 1 oil 1 lit;boy x at 0 calm 5;help 1000;");
        c.due("99 and 3", most.send(0, 0), 102);
        d.says(Document.TERMS, "He would SLEEP if his EASE is no less than his FEAR.");
        NightLights y = Check.told("man a at 0 fear 2 age 1 oil 1 lit;man b at 0 fear 3 age 1 oil 1 lit;man c at 0 fear 4 age 1 oil 1 lit;"
                + "man d at 0 fear 0 age 1;man f at 0 fear 1 age 1;");
        c.due("sleepers()", y.sleepers(), 1 + 2 + 8);
    }

    private void man() {
        d.says(6, "Of a MAN what 0: his PLACE, 1: FEAR, 2: age, 3: OIL");
        int[] first = {10, 8, 60, 2, 1, -1, 3};
        for (int what = 0; what < first.length; what++) {
            c.due("man(0, " + what + ")", lane().man(0, what), first[what]);
        }
        d.says(6, "4: 1 if LIT, else 0, 5: the BOY SENT to him (-1: none)");
        NightLights x = lane();
        c.due("LIT", x.man(0, 4), 1);
        c.due("not LIT, with OIL", x.man(2, 4), 0);
        x.light(1);
        c.due("LIT without OIL", x.man(1, 4), 1);
        c.due("none", x.man(2, 5), -1);
        x.send(0, 2);
        c.due("the BOY 0", x.man(2, 5), 0);
        d.says(6, "-2 if there is none such, or for another what.");
        c.leaves(x, "man(3, 0)", () -> x.man(3, 0), -2);
        c.leaves(x, "man(0, 7)", () -> x.man(0, 7), -2);
        c.leaves(x, "man(3, 7)", () -> x.man(3, 7), -2);
        for (int wild : Check.WILD) {
            c.due("man(" + wild + ", 1)", x.man(wild, 1), -2);
            c.due("man(2, " + wild + ")", x.man(2, wild), -2);
            c.due("man(0, " + wild + ")", x.man(0, wild), -2);
        }
        NightLights six = full();
        c.due("the sixth", six.man(5, 1), 5);
        c.due("a seventh", six.man(6, 1), -2);
    }

    private static NightLights full() {
        StringBuilder text = new StringBuilder("help calm;tank 50;");
        for (char name : "abcdfg".toCharArray()) {
            text.append("man ").append(name).append(" at 9 fear 5 age 1;");
        }
        for (char name : "abcd".toCharArray()) {
            text.append("boy ").append(name).append(" at 9 calm 5;");
        }
        return Check.told(text.toString());
    }

    private void boy() {
        d.says(7, "Of a BOY what 0: his PLACE, 1: calm");
        c.due("PLACE", lane().boy(1, 0), 18);
        c.due("calm", lane().boy(1, 1), 14);
        d.says(7, "2: the MAN to whom he is SENT (-1: none)");
        NightLights x = lane();
        c.due("none", x.boy(1, 2), -1);
        x.send(1, 0);
        c.due("the MAN 0", x.boy(1, 2), 0);
        d.says(7, "-2 if there is none such, or for another what.");
        c.leaves(x, "boy(2, 0)", () -> x.boy(2, 0), -2);
        c.leaves(x, "boy(0, 3)", () -> x.boy(0, 3), -2);
        for (int wild : Check.WILD) {
            c.due("boy(" + wild + ", 1)", x.boy(wild, 1), -2);
            c.due("boy(" + wild + ", 2)", x.boy(wild, 2), -2);
            c.due("boy(1, " + wild + ")", x.boy(1, wild), -2);
        }
        NightLights four = full();
        c.due("the fourth", four.boy(3, 1), 5);
        c.due("a fifth", four.boy(4, 1), -2);
    }

    private void help() {
        d.says(8, "HELP; NONE if one can't be.");
        NightLights x = lane();
        c.due("help(0, 0)", x.help(0, 0), 5);
        c.due("help(1, 2)", x.help(1, 2), 12);
        c.refuses(x, "help(2, 0)", () -> x.help(2, 0));
        c.refuses(x, "help(0, 3)", () -> x.help(0, 3));
        for (int wild : Check.WILD) {
            c.due("help(" + wild + ", 0)", x.help(wild, 0), -1);
            c.due("help(0, " + wild + ")", x.help(0, wild), -1);
        }
        c.due("help(3, 5)", full().help(3, 5), 5);
        c.due("without MEN", Check.told("boy x at 1 calm 1;").help(0, 0), -1);
        c.due("without BOYS", Check.told("man a at 1 fear 1 age 1;").help(0, 0), -1);
    }

    private void sleepers() {
        d.says(9, "MEN who would SLEEP now, as bits.");
        c.due("without MEN", new NightLights().sleepers(), 0);
        NightLights x = full();
        c.due("none", x.sleepers(), 0);
        for (int boy = 0; boy < 4; boy++) {
            x.send(boy, 5 - boy);
        }
        c.due("the last four of six", x.sleepers(), 60);
        c.due("all six", Check.told("man a at 1 fear 0 age 1;man b at 1 fear 0 age 1;man c at 1 fear 0 age 1;"
                + "man d at 1 fear 0 age 1;man f at 1 fear 0 age 1;man g at 1 fear 0 age 1;").sleepers(), 63);
    }

    private void fearInANight() {
        d.says(Document.TERMS, "if he would SLEEP, his FEAR is 1 less (0 at least), else 1 more (99 at most)");
        NightLights x = Check.told("man a at 0 fear 0 age 1;man b at 0 fear 1 age 1 oil 1 lit;man c at 0 fear 40 age 1;");
        c.due("night()", x.night(), 3);
        c.due("0 at least", x.man(0, 1), 0);
        c.due("1 less", x.man(1, 1), 0);
        c.due("1 more", x.man(2, 1), 41);
        for (int i = 1; i < 58; i++) {
            x.night();
        }
        c.due("98", x.man(2, 1), 98);
        x.night();
        c.due("99", x.man(2, 1), 99);
        x.night();
        c.due("99 at most", x.man(2, 1), 99);
        d.says(Document.TERMS, "A NIGHT: MAN by MAN, by what is so then");
        NightLights y = Check.told("man a at 0 fear 5 age 1;man b at 0 fear 5 age 1;boy x at 0 calm 1;help (night=0)*5;");
        y.send(0, 1);
        c.due("the night is the same for all", y.night(), 2);
        c.due("and goes up behind them", y.night(), 0);
    }

    private void oilInANight() {
        d.says(Document.TERMS, "if he had LIGHT, he has 1 OIL less");
        NightLights x = Check.told("man a at 0 fear 9 age 1 oil 1 lit;man b at 0 fear 9 age 1 oil 2;man c at 0 fear 9 age 1 lit;"
                + "man d at 0 fear 0 age 1 oil 20 lit;");
        x.night();
        int[] oil = {0, 2, 0, 19};
        for (int man = 0; man < 4; man++) {
            c.due("OIL of " + man, x.man(man, 3), oil[man]);
        }
        c.due("LIT all the same", x.about(2), 1 + 4 + 8);
        x.night();
        c.due("0 stays", x.man(0, 3), 0);
        NightLights last = Check.told("man a at 0 fear 3 age 1 oil 1 lit;");
        c.due("by the last OIL he SLEEPS", last.night(), 1);
        c.due("FEAR", last.man(0, 1), 2);
        c.due("then not", last.night(), 0);
    }

    private void seedInANight() {
        d.says(Document.TERMS, "becomes its 137-fold and 71 more, modulo 1,000, and if its rest by 100 is less than pipes tells, a pipe knocks: his FEAR is 2 more (99 at most)");
        int[] draws = {0, 1, 6, 7, 14, 777, 817, 999};
        for (int draw : draws) {
            int seed = (draw * 137 + 71) % 1000;
            int rest = seed % 100;
            for (int pipes : new int[] {0, rest - 1, rest, rest + 1, 100}) {
                if (pipes >= 0 && pipes <= 100) {
                    NightLights x = Check.told("man a at 0 fear 10 age 1;pipes " + pipes + ";draw " + draw + ";");
                    x.night();
                    c.due("SEED behind draw " + draw, x.about(5), seed);
                    c.due("FEAR behind draw " + draw + ", pipes " + pipes, x.man(0, 1), rest < pipes ? 13 : 11);
                }
            }
        }
        NightLights each = Check.told("man a at 0 fear 0 age 1;man b at 0 fear 0 age 1;man c at 0 fear 0 age 1;pipes 31;draw 7;");
        each.night();
        // 7, 30 (a knock), 181, 868
        c.due("the SEED goes on MAN by MAN", each.about(5), 868);
        c.due("a knock for him who SLEPT", each.man(0, 1), 2);
        c.due("none", each.man(1, 1), 0);
        c.due("none", each.man(2, 1), 0);
        NightLights silent = new NightLights();
        silent.night();
        c.due("without MEN the SEED stays", silent.about(5), 0);
        NightLights loud = Check.told("man a at 0 fear 39 age 1;pipes 100;");
        for (int i = 0; i < 19; i++) {
            loud.night();
        }
        c.due("96", loud.man(0, 1), 96);
        loud.night();
        c.due("97 and 2", loud.man(0, 1), 99);
        loud.night();
        c.due("99 at most", loud.man(0, 1), 99);
        NightLights odd = Check.told("man a at 0 fear 40 age 1;pipes 100;");
        for (int i = 0; i < 20; i++) {
            odd.night();
        }
        c.due("98 and 2", odd.man(0, 1), 99);
        d.says(Document.TERMS, "The night goes up by 1.");
        NightLights up = lane();
        up.night();
        c.due("1", up.about(4), 1);
        up.night();
        c.due("2", up.about(4), 2);
    }

    private void nightAnswers() {
        d.says(10, "A NIGHT: who SLEEPS, as bits");
        c.due("without MEN", new NightLights().night(), 0);
        NightLights x = Check.told("man a at 0 fear 3 age 1 oil 1 lit;man b at 0 fear 1 age 1;man c at 0 fear 0 age 1;pipes 100;");
        c.due("before pipes knock", x.night(), 5);
        c.due("then", x.night(), 0);
        d.says(10, "NONE, doing nothing, behind 999 of them. (An ACT.)");
        NightLights many = Check.told("man a at 0 fear 9 age 1 oil 3;tank 5;draw 1;");
        for (int i = 0; i < 998; i++) {
            many.night();
        }
        c.due("the 999th", many.night(), 0);
        c.due("999", many.about(4), 999);
        c.refuses(many, "one more", many::night);
        c.due("the last one is kept", many.undo(), true);
        c.due("998", many.about(4), 998);
        c.refuses(many, "what can't be leaves REDO", () -> many.send(0, 0));
        c.due("redo()", many.redo(), true);
        c.refuses(many, "one more", many::night);
    }

    private void send() {
        d.says(Document.TERMS, "ACTS: a NIGHT; a BOY who is SENT to none is SENT to a MAN who has none; one is called back; a MAN is LIT, or put out");
        NightLights acts = lane();
        acts.night();
        acts.send(0, 0);
        acts.recall(0);
        acts.light(1);
        acts.snuff(1);
        acts.pour(1, 1);
        c.due("six ACTS", acts.about(6), 6);
        acts.sending(0);
        acts.stable();
        acts.later(3);
        acts.seen(1, true);
        acts.untell(0);
        acts.image(0);
        acts.feed(0, 0, 0, 0, 0);
        acts.end(0);
        c.due("these are no ACTS", acts.about(6), 6);
        d.says(11, "He is SENT: EASE of the MAN then");
        NightLights x = lane();
        c.due("by HELP and LIGHT", x.send(1, 0), 9);
        c.due("one ACT", x.about(6), 1);
        c.due("HELP of 0", lane().send(1, 1), 0);
        d.says(11, "NONE, doing nothing, if he is SENT to one, the MAN has one, or one can't be. (An ACT.)");
        c.refuses(x, "he is SENT to one", () -> x.send(1, 1));
        c.refuses(x, "the MAN has one", () -> x.send(0, 0));
        c.refuses(x, "both", () -> x.send(1, 0));
        c.refuses(x, "no BOY 2", () -> x.send(2, 1));
        c.refuses(x, "no MAN 3", () -> x.send(0, 3));
        for (int wild : Check.WILD) {
            c.refuses(x, "send(" + wild + ", 1)", () -> x.send(wild, 1));
            c.refuses(x, "send(0, " + wild + ")", () -> x.send(0, wild));
        }
        NightLights none = new NightLights();
        c.refuses(none, "nobody there", () -> none.send(0, 0));
        NightLights full = full();
        c.due("the last to the last", full.send(3, 5), 5);
    }

    private void recall() {
        d.says(12, "He is called back: from which MAN");
        NightLights x = lane();
        x.send(0, 0);
        x.send(1, 2);
        c.due("from MAN 0", x.recall(0), 0);
        c.due("from MAN 2", x.recall(1), 2);
        c.due("he has none", x.man(2, 5), -1);
        c.due("four ACTS", x.about(6), 4);
        d.says(12, "NONE, doing nothing, if he is SENT to none, or there is none such. (An ACT.)");
        c.refuses(x, "SENT to none", () -> x.recall(0));
        c.refuses(x, "no BOY 2", () -> x.recall(2));
        for (int wild : Check.WILD) {
            c.refuses(x, "recall(" + wild + ")", () -> x.recall(wild));
        }
        NightLights none = new NightLights();
        c.refuses(none, "nobody there", () -> none.recall(0));
    }

    private void light() {
        d.says(13, "A MAN is LIT: his OIL");
        NightLights x = lane();
        c.due("OIL 1", x.light(2), 1);
        c.due("OIL 0", x.light(1), 0);
        c.due("all are LIT", x.about(2), 7);
        c.due("two ACTS", x.about(6), 2);
        d.says(13, "NONE, doing nothing, if he is, or there is none such. (An ACT.)");
        c.refuses(x, "he is, as told", () -> x.light(0));
        c.refuses(x, "he is without OIL", () -> x.light(1));
        c.refuses(x, "no MAN 3", () -> x.light(3));
        for (int wild : Check.WILD) {
            c.refuses(x, "light(" + wild + ")", () -> x.light(wild));
        }
        NightLights none = new NightLights();
        c.refuses(none, "nobody there", () -> none.light(0));
        c.due("the sixth", full().light(5), 0);
    }

    private void snuff() {
        d.says(14, "He is put out: his OIL");
        NightLights x = lane();
        c.due("OIL 2", x.snuff(0), 2);
        c.due("none is LIT", x.about(2), 0);
        c.due("one ACT", x.about(6), 1);
        x.light(1);
        c.due("OIL 0", x.snuff(1), 0);
        d.says(14, "NONE, doing nothing, if he is not LIT, or there is none such. (An ACT.)");
        c.refuses(x, "he was put out", () -> x.snuff(0));
        c.refuses(x, "he never was LIT", () -> x.snuff(2));
        c.refuses(x, "no MAN 3", () -> x.snuff(3));
        for (int wild : Check.WILD) {
            c.refuses(x, "snuff(" + wild + ")", () -> x.snuff(wild));
        }
        NightLights none = new NightLights();
        c.refuses(none, "nobody there", () -> none.snuff(0));
        NightLights full = full();
        full.light(5);
        c.due("the sixth", full.snuff(5), 0);
    }

    private void pour() {
        d.says(15, "OIL is poured (1 .. 20): how much he has then");
        NightLights x = Check.told("man a at 0 fear 1 age 1;man b at 0 fear 1 age 1 oil 3;man c at 0 fear 1 age 1 oil 19;tank 25;");
        c.refuses(x, "0", () -> x.pour(0, 0));
        c.refuses(x, "21", () -> x.pour(0, 21));
        for (int wild : Check.WILD) {
            c.refuses(x, "pour(0, " + wild + ")", () -> x.pour(0, wild));
        }
        c.due("20", x.pour(0, 20), 20);
        c.due("tank", x.about(3), 5);
        c.due("1", x.pour(1, 1), 4);
        c.due("tank", x.about(3), 4);
        c.due("two ACTS", x.about(6), 2);
        d.says(15, "NONE, doing nothing, if there is not so much in the tank, he would have more than 20, or one can't be. (An ACT.)");
        c.refuses(x, "5 of 4", () -> x.pour(1, 5));
        c.refuses(x, "19 and 2", () -> x.pour(2, 2));
        c.refuses(x, "20 and 1", () -> x.pour(0, 1));
        c.refuses(x, "no MAN 3", () -> x.pour(3, 1));
        for (int wild : Check.WILD) {
            c.refuses(x, "pour(" + wild + ", 1)", () -> x.pour(wild, 1));
        }
        c.due("4 of 4", x.pour(1, 4), 8);
        c.due("tank", x.about(3), 0);
        c.refuses(x, "1 of 0", () -> x.pour(1, 1));
        NightLights none = Check.told("tank 9;");
        c.refuses(none, "nobody there", () -> none.pour(0, 1));
    }

    private void undo() {
        d.says(16, "UNDO: true; false if there is none.");
        NightLights x = lane();
        c.refusesSo(x, "at first", x::undo);
        int[][] states = new int[7][];
        states[0] = all(x);
        x.send(0, 1);
        states[1] = all(x);
        x.light(2);
        states[2] = all(x);
        x.pour(1, 3);
        states[3] = all(x);
        x.night();
        states[4] = all(x);
        x.snuff(0);
        states[5] = all(x);
        x.recall(0);
        states[6] = all(x);
        d.says(Document.TERMS, "UNDO takes back the latest ACT that was not");
        for (int i = 5; i >= 0; i--) {
            c.due("undo()", x.undo(), true);
            same("as it was behind " + i, all(x), states[i]);
            c.due("that can be undone", x.about(6), i);
            c.due("that can be redone", x.about(7), 6 - i);
        }
        c.refusesSo(x, "all are taken back", x::undo);
        d.says(17, "REDO: true; false if there is none.");
        for (int i = 1; i <= 6; i++) {
            c.due("redo()", x.redo(), true);
            same("as it was behind " + i, all(x), states[i]);
            c.due("that can be undone", x.about(6), i);
            c.due("that can be redone", x.about(7), 6 - i);
        }
        c.refusesSo(x, "all are done again", x::redo);
        NightLights none = new NightLights();
        c.refusesSo(none, "without MEN", none::redo);
    }

    private void redo() {
        d.says(Document.TERMS, "REDO does that again which was taken back last (till another ACT)");
        String[] acts = {"night", "send", "recall", "light", "snuff", "pour"};
        for (int act = 0; act < acts.length; act++) {
            NightLights x = lane();
            x.send(0, 0);
            x.night();
            x.night();
            x.undo();
            x.undo();
            c.due("two before " + acts[act], x.about(7), 2);
            switch (act) {
                case 0: x.night(); break;
                case 1: x.send(1, 1); break;
                case 2: x.recall(0); break;
                case 3: x.light(1); break;
                case 4: x.snuff(0); break;
                default: x.pour(0, 1); break;
            }
            c.due("none behind " + acts[act], x.about(7), 0);
            c.refusesSo(x, "redo() behind " + acts[act], x::redo);
            c.due("ACTS behind " + acts[act], x.about(6), 2);
        }
        NightLights y = lane();
        y.night();
        y.undo();
        y.light(0);
        y.send(5, 0);
        y.sending(0);
        y.will(0, 5, 1);
        y.image(0);
        y.seen(1, true);
        c.due("no ACT leaves it", y.about(7), 1);
        c.due("redo()", y.redo(), true);
        c.due("the night", y.about(4), 1);
    }

    private void kept() {
        d.says(Document.TERMS, "40 at most are kept, the oldest go");
        NightLights x = Check.told("man a at 0 fear 9 age 1 oil 4;tank 9;draw 3;");
        for (int i = 1; i <= 40; i++) {
            x.night();
            c.due("ACTS", x.about(6), i);
        }
        int[] first = all(Check.told("man a at 0 fear 9 age 1 oil 4;tank 9;draw 3;"));
        for (int i = 0; i < 40; i++) {
            c.due("undo()", x.undo(), true);
        }
        same("forty back", all(x), first);
        c.refusesSo(x, "no more", x::undo);
        c.due("to redo", x.about(7), 40);
        for (int i = 0; i < 40; i++) {
            x.redo();
        }
        c.due("night", x.about(4), 40);
        x.light(0);
        c.due("the 41st: forty are kept", x.about(6), 40);
        for (int i = 0; i < 40; i++) {
            c.due("undo()", x.undo(), true);
        }
        c.due("the first one stays done", x.about(4), 1);
        c.refusesSo(x, "no more", x::undo);
        NightLights y = Check.told("man a at 0 fear 9 age 1;");
        for (int i = 0; i < 120; i++) {
            y.night();
        }
        for (int i = 0; i < 3; i++) {
            y.undo();
        }
        y.light(0);
        c.due("38 of them and three less", y.about(6), 38);
        for (int i = 0; i < 38; i++) {
            y.undo();
        }
        c.due("the eighty that went", y.about(4), 80);
        c.refusesSo(y, "no more", y::undo);
    }

    private void image() {
        d.says(48, "FEARS, OIL, who is LIT, who is SENT, the tank, the night, the SEED are kept in a BOX 0 .. 2: the night");
        NightLights x = lane();
        int[][] states = new int[3][];
        for (int box = 0; box < 3; box++) {
            x.night();
            x.pour(box, 1);
            x.send(box, box);
            states[box] = all(x);
            c.leaves(x, "image(" + box + ")", imageOf(x, box), box + 1);
        }
        x.light(1);
        x.light(2);
        x.recall(0);
        x.recall(1);
        x.pour(0, 3);
        x.night();
        for (int box = 2; box >= 0; box--) {
            c.due("back(" + box + ")", x.back(box), box + 1);
            same("as it was kept in " + box, all(x), states[box]);
        }
        x.snuff(0);
        int[] anew = all(x);
        c.due("kept anew", x.image(2), 1);
        x.night();
        c.due("back", x.back(2), 1);
        same("as it was kept last", all(x), anew);
        d.says(48, "NONE if there is none such.");
        c.refuses(x, "image(3)", () -> x.image(3));
        for (int wild : Check.WILD) {
            c.refuses(x, "image(" + wild + ")", () -> x.image(wild));
        }
        NightLights none = new NightLights();
        c.due("without MEN", none.image(0), 0);
        c.due("without MEN", none.back(0), 0);
    }

    private static java.util.function.IntSupplier imageOf(NightLights x, int box) {
        return () -> x.image(box);
    }

    private void back() {
        d.says(49, "All is as it was kept (no ACTS are kept then): the night");
        NightLights x = lane();
        x.night();
        x.night();
        x.image(1);
        x.night();
        x.undo();
        c.due("to undo", x.about(6), 2);
        c.due("to redo", x.about(7), 1);
        c.due("back(1)", x.back(1), 2);
        c.due("none to undo", x.about(6), 0);
        c.due("none to redo", x.about(7), 0);
        c.refusesSo(x, "undo()", x::undo);
        c.refusesSo(x, "redo()", x::redo);
        x.night();
        c.due("one to undo", x.undo(), true);
        c.due("up to what was kept", x.about(4), 2);
        c.refusesSo(x, "undo()", x::undo);
        d.says(49, "NONE, doing nothing, if nothing was.");
        x.redo();
        c.refuses(x, "back(0)", () -> x.back(0));
        c.refuses(x, "back(2)", () -> x.back(2));
        c.refuses(x, "back(3)", () -> x.back(3));
        for (int wild : Check.WILD) {
            c.refuses(x, "back(" + wild + ")", () -> x.back(wild));
        }
        c.due("ACTS stay", x.about(6), 1);
    }

    /** What ACTS change. */
    private static int[] all(NightLights x) {
        int[] rows = new int[28];
        int n = 0;
        for (int man = 0; man < 3; man++) {
            for (int what : new int[] {1, 3, 4, 5, 6}) {
                rows[n++] = x.man(man, what);
            }
        }
        for (int boy = 0; boy < 4; boy++) {
            rows[n++] = x.boy(boy, 2);
        }
        for (int what = 2; what <= 5; what++) {
            rows[n++] = x.about(what);
        }
        return rows;
    }

    private void same(String when, int[] got, int[] want) {
        for (int i = 0; i < want.length; i++) {
            c.due(when + " (" + i + ")", got[i], want[i]);
        }
    }
}
