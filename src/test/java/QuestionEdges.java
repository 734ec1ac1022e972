import java.util.function.IntSupplier;

/** Boundary cases of what is asked, sentence by sentence: ==== 3 and promises 18 to 40. */
final class QuestionEdges {
    private static final String LANE = "man dean at 10 fear 8 age 60 oil 2 lit;man vicar at 4 fear 5 age 50;"
            + "man clerk at 20 fear 12 age 41 oil 1;boy tim at 6 calm 9;boy ned at 18 calm 14;"
            + "tank 10;pipes 30;draw 7;";
    private static final String BOYS_ALONE = "boy x at 7 calm 9;boy y at 8 calm 9;";
    private static final String MEN_ALONE = "man a at 7 fear 1 age 1;man b at 8 fear 1 age 1;";

    private final Check c;
    private final Document d;

    QuestionEdges(Check c, Document d) {
        this.c = c;
        this.d = d;
    }

    void all() {
        nothingIsDone();
        noPipe();
        beyondAThousand();
        will();
        asleep();
        calm();
        sending();
        sendingNone();
        sendingOfLikeOnes();
        round();
        twelve();
        stable();
        jealous();
        jealousAnswers();
        burning();
        burningOfLikeOnes();
        burningAnswers();
        need();
        least();
        rivals();
        rivalsRefused();
        home();
        trade();
        tradeAnswers();
        idle();
        dark();
        glow();
        blest();
        timid();
        nearest();
        between();
        law();
        odds();
        sixAndFour();
    }

    private static NightLights lane() {
        return Check.told(LANE);
    }

    /** Each of these numbers, and the one given, is refused, and nothing is done. */
    private interface By {
        int answer(int number);
    }

    private void refusesWild(NightLights x, String call, By made, int... others) {
        for (int wild : Check.WILD) {
            c.refuses(x, call + " of " + wild, () -> made.answer(wild));
        }
        for (int other : others) {
            c.refuses(x, call + " of " + other, () -> made.answer(other));
        }
    }

    private void nothingIsDone() {
        d.says(Document.TERMS, "(By what is now; nothing is done; no pipe knocks, if not told otherwise.");
        NightLights x = lane();
        x.send(0, 1);
        x.night();
        x.light(2);
        x.night();
        x.undo();
        x.round(0);
        quiet(x, "will", () -> x.will(0, 60, 1));
        quiet(x, "asleep", () -> x.asleep(60));
        quiet(x, "calm", x::calm);
        quiet(x, "twelve", () -> x.twelve(1, 30, 1));
        quiet(x, "jealous", () -> x.jealous(0));
        quiet(x, "burning", () -> x.burning(2, 8, 1));
        quiet(x, "need", () -> x.need(60));
        quiet(x, "least", () -> x.least(1, 1));
        quiet(x, "home", () -> x.home(1, 0));
        quiet(x, "trade", () -> x.trade(0));
        quiet(x, "idle", x::idle);
        quiet(x, "dark", x::dark);
        quiet(x, "glow", x::glow);
        quiet(x, "blest", x::blest);
        quiet(x, "timid", x::timid);
        quiet(x, "nearest", () -> x.nearest(0));
        quiet(x, "between", () -> x.between(0, 99));
        quiet(x, "law", () -> x.law(50));
        quiet(x, "odds", () -> x.odds(4, 1));
        quiet(x, "sleepers", x::sleepers);
        // These change what lies there, and nothing else: what lay there is laid again.
        quiet(x, "sending", () -> then(x, x.sending(0)));
        quiet(x, "stable", () -> then(x, x.stable()));
        quiet(x, "rivals", () -> then(x, x.rivals(0, 1)));
        quiet(x, "round", () -> then(x, x.round(1)));
        c.due("redo() is left", x.redo(), true);
        c.due("by the same SEED", x.about(5), seedBehind(7, 6));
    }

    private static int seedBehind(int draw, int times) {
        int seed = draw;
        for (int i = 0; i < times; i++) {
            seed = (seed * 137 + 71) % 1000;
        }
        return seed;
    }

    private static int then(NightLights x, int answer) {
        x.round(0);
        return answer;
    }

    private void quiet(NightLights x, String call, IntSupplier made) {
        int once = made.getAsInt();
        c.leaves(x, call, made, once);
    }

    private void noPipe() {
        d.says(Document.TERMS, "no pipe knocks, if not told otherwise.");
        NightLights x = Check.told("man a at 0 fear 3 age 1 oil 9 lit;pipes 100;");
        c.due("will, none", x.will(0, 3, 0), 0);
        c.due("will, told otherwise", x.will(0, 3, 1), 10);
        c.due("asleep", x.asleep(3), 1);
        c.due("calm", x.calm(), 0);
        c.due("burning", x.burning(0, 3, 0), 3);
        NightLights y = Check.told("man a at 0 fear 5 age 1;boy x at 0 calm 1;help (night=3)*8;pipes 100;");
        y.send(0, 0);
        c.due("calm", y.calm(), 3);
    }

    private void beyondAThousand() {
        d.says(Document.TERMS, "The night goes on beyond 999, too.)");
        NightLights x = Check.told("man a at 0 fear 0 age 1 oil 20;boy x at 0 calm 1;help (night=1005)*99+(night<1000)*99;");
        x.send(0, 0);
        for (int i = 0; i < 999; i++) {
            x.night();
        }
        c.due("night()", x.night(), -1);
        c.due("will(0, 1, 0)", x.will(0, 1, 0), 0);
        c.due("asleep(1) is night 999", x.asleep(1), 1);
        c.due("asleep(7) is night 1005", x.asleep(7), 1);
        NightLights y = Check.told("man a at 0 fear 1 age 1 oil 20;boy x at 0 calm 1;help (night>1004)*99;");
        y.send(0, 0);
        for (int i = 0; i < 999; i++) {
            y.night();
        }
        c.due("calm()", y.calm(), 6);
        c.due("will(0, 7, 0)", y.will(0, 7, 0), 98);
        c.due("asleep(6) is night 1004", y.asleep(6), 0);
        c.due("asleep(7) is night 1005", y.asleep(7), 1);
        c.due("burning(0, 8, 0)", y.burning(0, 8, 0), 2);
    }

    private void will() {
        d.says(18, "FEAR of a MAN behind n NIGHTS (0 .. 60)");
        NightLights x = lane();
        c.due("behind none", x.will(2, 0, 0), 12);
        c.due("behind none", x.will(2, 0, 1), 12);
        c.due("behind 60", x.will(2, 60, 0), 72);
        c.refuses(x, "behind 61", () -> x.will(2, 61, 0));
        refusesWild(x, "will by n", n -> x.will(2, n, 0));
        NightLights most = Check.told("man a at 0 fear 40 age 1;");
        c.due("99 at most", most.will(0, 59, 0), 99);
        c.due("99 at most", most.will(0, 60, 0), 99);
        NightLights least = Check.told("man a at 0 fear 3 age 1 oil 20 lit;");
        c.due("0 at least", least.will(0, 5, 0), 0);
        c.due("0 at least", least.will(0, 60, 0), 0);
        d.says(18, "pipes as the SEED tells (what 1), none (0)");
        NightLights y = Check.told("man a at 0 fear 9 age 1;man b at 0 fear 9 age 1;pipes 31;draw 7;");
        // 30 (a knock), 181, 868, 987, 290, 801 (a knock), 808 (a knock), 767
        int[] first = {9, 12, 13, 14, 17};
        int[] second = {9, 10, 11, 14, 15};
        for (int n = 0; n <= 4; n++) {
            c.due("will(0, " + n + ", 1)", y.will(0, n, 1), first[n]);
            c.due("will(1, " + n + ", 1)", y.will(1, n, 1), second[n]);
            c.due("will(0, " + n + ", 0)", y.will(0, n, 0), 9 + n);
        }
        int before = y.will(1, 4, 1);
        y.night();
        c.due("by the SEED of now", y.will(1, 3, 1), before);
        d.says(18, "NONE if one can't be.");
        c.refuses(x, "no MAN 3", () -> x.will(3, 0, 0));
        refusesWild(x, "will of a MAN", man -> x.will(man, 1, 0));
        refusesWild(x, "will by what", what -> x.will(0, 1, what), 2);
        c.due("without MEN", new NightLights().will(0, 0, 0), -1);
    }

    private void asleep() {
        d.says(19, "Who SLEEPS on the n-th NIGHT from now on (1 .. 60), as bits");
        NightLights x = Check.told("man a at 0 fear 0 age 1;man b at 0 fear 3 age 1 oil 2 lit;man c at 0 fear 1 age 1;");
        c.due("the first one", x.asleep(1), 3);
        c.due("the second one", x.asleep(2), 3);
        c.due("the third one, out of OIL", x.asleep(3), 1);
        c.due("the last one", x.asleep(60), 1);
        c.due("as night() tells", x.night(), 3);
        x.night();
        c.due("from now on", x.asleep(1), 1);
        d.says(19, "NONE for another n.");
        refusesWild(x, "asleep", x::asleep, 0, 61);
        c.due("without MEN", new NightLights().asleep(60), 0);
    }

    private void calm() {
        d.says(20, "CALM (0 .. 60: behind none they would now)");
        c.due("without MEN", new NightLights().calm(), 0);
        c.due("now", Check.told("man a at 0 fear 0 age 1;").calm(), 0);
        for (int night : new int[] {1, 2, 59, 60}) {
            NightLights x = Check.told("man a at 0 fear 1 age 1;boy x at 0 calm 1;help (night=" + night + ")*99;");
            x.send(0, 0);
            c.due("behind " + night, x.calm(), night);
        }
        d.says(20, "NONE if not in these.");
        NightLights late = Check.told("man a at 0 fear 1 age 1;boy x at 0 calm 1;help (night=61)*99;");
        late.send(0, 0);
        c.due("behind 61", late.calm(), -1);
        late.night();
        c.due("behind 60 from now on", late.calm(), 60);
        c.due("never", Check.told("man a at 0 fear 1 age 1;").calm(), -1);
        d.says(Document.TERMS, "CALM: behind how many NIGHTS all would SLEEP first");
        NightLights two = Check.told("man a at 0 fear 9 age 1;man b at 0 fear 9 age 1;boy x at 0 calm 1;boy y at 0 calm 2;"
                + "help (calm=1)*(night>1)*99+(calm=2)*(night<2 or night>4)*99;");
        two.send(0, 0);
        two.send(1, 1);
        c.due("all at once", two.calm(), 5);
        NightLights again = Check.told("man a at 0 fear 1 age 1;boy x at 0 calm 1;help (night=2 or night=9)*99;");
        again.send(0, 0);
        c.due("first", again.calm(), 2);
    }

    private void sending() {
        d.says(21, "SENDING what 0: how many would SLEEP, 1: all HELP together");
        NightLights x = lane();
        c.due("sending(0)", x.sending(0), 2);
        c.due("sending(1)", x.sending(1), 19);
        d.says(21, "NONE for another what.");
        for (int what : new int[] {2, 3, -1, -2, Integer.MAX_VALUE, Integer.MIN_VALUE}) {
            c.due("sending(" + what + ")", x.sending(what), -1);
        }
        d.says(21, "The BOY of each MAN (-1: none) lies there then.");
        x.round(-1);
        x.sending(0);
        c.lying("what 0", x, -1, 0, 1);
        x.round(-1);
        x.sending(1);
        c.lying("what 1", x, -1, 0, 1);
        NightLights none = new NightLights();
        c.due("without MEN", none.sending(0), 0);
        c.lying("without MEN", none);
        NightLights men = Check.told(MEN_ALONE);
        c.due("without BOYS", men.sending(1), 0);
        c.lying("without BOYS", men, -1, -1);
        NightLights boys = Check.told(BOYS_ALONE);
        c.due("BOYS alone", boys.sending(1), 0);
        c.lying("BOYS alone", boys);
        d.says(Document.TERMS, "SENDING: BOYS SENT anew, one at most to each MAN, so that most MEN would SLEEP");
        NightLights anew = lane();
        anew.send(0, 2);
        anew.send(1, 1);
        c.due("anew", anew.sending(0), 2);
        c.lying("anew", anew, -1, 0, 1);
        NightLights crowd = Check.told("man a at 0 fear 9 age 1;boy x at 0 calm 5;boy y at 0 calm 6;boy z at 0 calm 4;");
        c.due("one to a MAN", crowd.sending(1), 6);
        c.lying("one to a MAN", crowd, 1);
        NightLights before = Check.told("man a at 0 fear 30 age 1;man b at 20 fear 2 age 1;boy x at 2 calm 20;");
        c.due("SLEEP goes before HELP", before.sending(0), 1);
        c.lying("SLEEP goes before HELP", before, -1, 0);
        c.due("the lesser HELP", before.sending(1), 2);
    }

    private void sendingNone() {
        d.says(Document.TERMS, "so that most MEN would SLEEP");
        NightLights x = Check.told("man a at 0 fear 0 age 1;man b at 0 fear 3 age 1 oil 1 lit;man c at 0 fear 1 age 1;man d at 0 fear 4 age 1 oil 1 lit;"
                + "man f at 0 fear 8 age 1 oil 1 lit;boy x at 0 calm 5;");
        c.due("by themselves, by LIGHT, and one by HELP and LIGHT", x.sending(0), 3);
        c.lying("the first of c, d, f", x, -1, -1, 0, -1, -1);
        x.night();
        c.due("without LIGHT", x.sending(0), 2);
        c.due("without LIGHT", x.sending(1), 5);
        c.lying("without LIGHT", x, -1, 0, -1, -1, -1);
        Check.tell(x, "man a at 0 fear 40 age 1;boy x at 50 calm 0;");
        c.due("none", x.sending(0), 0);
        c.due("none", x.sending(1), 0);
        c.lying("none", x, 0);
    }

    private void sendingOfLikeOnes() {
        d.says(Document.TERMS, "of like ones by which all HELP together is most");
        NightLights x = Check.told("man a at 0 fear 1 age 1;man b at 3 fear 1 age 1;boy x at 3 calm 9;");
        c.due("HELP 9, not 6", x.sending(1), 9);
        c.lying("the second MAN", x, -1, 0);
        d.says(Document.TERMS, "of like ones the first (MAN by MAN: the least BOY, none behind all)");
        NightLights like = Check.told("man a at 0 fear 1 age 1;man b at 0 fear 1 age 1;man c at 0 fear 1 age 1;"
                + "boy x at 0 calm 2;boy y at 0 calm 2;");
        like.sending(0);
        c.lying("the least BOYS first", like, 0, 1, -1);
        NightLights zero = Check.told("man a at 9 fear 9 age 1;man b at 9 fear 9 age 1;boy x at 0 calm 2;boy y at 0 calm 2;boy z at 0 calm 2;");
        zero.sending(0);
        c.lying("none behind all, though all HELP is 0", zero, 0, 1);
        NightLights brave = Check.told("man a at 9 fear 0 age 1;boy x at 0 calm 2;");
        brave.sending(0);
        c.lying("none behind all, though he SLEEPS by himself", brave, 0);
    }

    private void round() {
        d.says(22, "ROUND: how far (0 without MEN)");
        NightLights none = Check.told(BOYS_ALONE);
        none.stable();
        c.due("without MEN", none.round(0), 0);
        c.lying("without MEN", none);
        NightLights here = Check.told("man a at 5 fear 1 age 1;man b at 5 fear 1 age 1;boy x at 5 calm 1;boy y at 0 calm 1;");
        c.due("no step", here.round(0), 0);
        c.lying("no step", here, 0, 1);
        c.due("five", here.round(1), 5);
        NightLights ends = Check.told("man a at 0 fear 1 age 1;man b at 99 fear 1 age 1;boy x at 49 calm 1;boy y at 50 calm 1;");
        c.due("from 49", ends.round(0), 49 + 99);
        c.lying("from 49", ends, 0, 1);
        c.due("from 50", ends.round(1), 49 + 99);
        c.lying("from 50", ends, 1, 0);
        d.says(22, "NONE if there is no such BOY.");
        for (int boy : new int[] {2, -1, -2, Integer.MAX_VALUE, Integer.MIN_VALUE}) {
            c.due("round(" + boy + ")", ends.round(boy), -1);
        }
        c.due("without BOYS", Check.told(MEN_ALONE).round(0), -1);
        d.says(22, "MEN lie there then, in order (behind NONE: nothing).");
        ends.round(1);
        c.lying("in order", ends, 1, 0);
        ends.round(2);
        c.lying("behind NONE", ends);
        d.says(Document.TERMS, "ROUND of a BOY: the order of all MEN by which the way from his PLACE is shortest; of like ones the first (by numbers).");
        NightLights tie = Check.told("man a at 60 fear 1 age 1;man b at 40 fear 1 age 1;man c at 60 fear 1 age 1;man d at 50 fear 1 age 1;"
                + "boy x at 50 calm 1;");
        c.due("either way", tie.round(0), 30);
        c.lying("either way", tie, 0, 2, 3, 1);
        NightLights six = Check.told("man a at 9 fear 1 age 1;man b at 8 fear 1 age 1;man c at 7 fear 1 age 1;man d at 6 fear 1 age 1;"
                + "man f at 5 fear 1 age 1;man g at 4 fear 1 age 1;boy x at 0 calm 1;");
        c.due("six", six.round(0), 9);
        c.lying("six", six, 5, 4, 3, 2, 1, 0);
    }

    private void twelve() {
        d.says(23, "TWELVE (0 .. 999 steps) what 0: how many, 1: to whom, as bits");
        NightLights x = Check.told("man a at 10 fear 1 age 1;man b at 4 fear 1 age 1;man c at 8 fear 1 age 1;boy x at 8 calm 1;");
        c.due("0 steps", x.twelve(0, 0, 0), 1);
        c.due("0 steps", x.twelve(0, 0, 1), 4);
        c.due("999 steps", x.twelve(0, 999, 0), 3);
        c.due("999 steps", x.twelve(0, 999, 1), 7);
        d.says(23, "NONE if one can't be.");
        refusesWild(x, "twelve by steps", steps -> x.twelve(0, steps, 0), 1000);
        refusesWild(x, "twelve of a BOY", boy -> x.twelve(boy, 5, 0), 1);
        refusesWild(x, "twelve by what", what -> x.twelve(0, 5, what), 2);
        NightLights none = Check.told(BOYS_ALONE);
        c.due("without MEN", none.twelve(1, 999, 0), 0);
        c.due("without MEN", none.twelve(1, 999, 1), 0);
        d.says(Document.TERMS, "the most MEN to whom he comes (from his PLACE, in whatever order) within so many steps; of like ones the least set as bits.");
        c.due("one step too few", x.twelve(0, 1, 1), 4);
        c.due("the first alone", Check.told("man a at 4 fear 1 age 1;man b at 9 fear 1 age 1;boy x at 5 calm 1;").twelve(0, 3, 1), 1);
        c.due("the second alone", Check.told("man a at 9 fear 1 age 1;man b at 4 fear 1 age 1;boy x at 5 calm 1;").twelve(0, 3, 1), 2);
        c.due("two steps", x.twelve(0, 2, 1), 5);
        c.due("to the other side", x.twelve(0, 7, 1), 5);
        c.due("there and back", x.twelve(0, 8, 1), 7);
        NightLights like = Check.told("man a at 12 fear 1 age 1;man b at 4 fear 1 age 1;man c at 12 fear 1 age 1;man d at 4 fear 1 age 1;boy x at 8 calm 1;");
        c.due("two, the least set", like.twelve(0, 4, 1), 5);
        c.due("two", like.twelve(0, 11, 0), 2);
        c.due("all", like.twelve(0, 12, 1), 15);
    }

    private void stable() {
        d.says(24, "STABLE: how many MEN have one. The BOY of each MAN (-1: none) lies there then.");
        NightLights x = Check.told("man a at 5 fear 9 age 1;man b at 2 fear 9 age 1;man c at 90 fear 9 age 1;boy x at 1 calm 20;boy y at 9 calm 10;");
        c.due("two of three", x.stable(), 2);
        c.lying("two of three", x, 1, 0, -1);
        NightLights none = new NightLights();
        c.due("nobody there", none.stable(), 0);
        c.lying("nobody there", none);
        NightLights men = Check.told(MEN_ALONE);
        c.due("without BOYS", men.stable(), 0);
        c.lying("without BOYS", men, -1, -1);
        NightLights boys = Check.told(BOYS_ALONE);
        c.due("without MEN", boys.stable(), 0);
        c.lying("without MEN", boys);
        x.send(0, 0);
        c.due("whoever is SENT", x.stable(), 2);
        d.says(Document.TERMS, "(of like ones the lesser number; none of whom he has none)");
        NightLights like = Check.told("man a at 5 fear 9 age 1;boy x at 9 calm 8;boy y at 1 calm 8;boy z at 5 calm 3;");
        like.stable();
        c.lying("the lesser number of 4, 4 and 3", like, 0);
        NightLights zero = Check.told("man a at 5 fear 0 age 1;boy x at 9 calm 4;boy y at 9 calm 3;");
        c.due("HELP 0", zero.stable(), 0);
        c.lying("HELP 0", zero, -1);
        NightLights one = Check.told("man a at 5 fear 0 age 1;boy x at 9 calm 5;");
        c.due("HELP 1", one.stable(), 1);
        d.says(Document.TERMS, "each BOY a MAN who is less FAR (of like ones the lesser number)");
        NightLights far = Check.told("man a at 7 fear 9 age 1;man b at 3 fear 9 age 1;man c at 7 fear 9 age 1;boy x at 5 calm 9;");
        far.stable();
        c.lying("three as FAR", far, 0, -1, -1);
        NightLights near = Check.told("man a at 7 fear 9 age 1;man b at 4 fear 9 age 1;boy x at 5 calm 9;");
        near.stable();
        c.lying("the less FAR one, who asks later", near, -1, 0);
        d.says(Document.TERMS, "by turns MEN who have none yet ask (the least number first) the BOY whom they would rather have of those that did not refuse them");
        NightLights turns = Check.told("man a at 12 fear 9 age 1;man b at 11 fear 9 age 1;man c at 10 fear 9 age 1;"
                + "boy x at 10 calm 30;boy y at 14 calm 20;boy z at 18 calm 10;");
        // All ask x first, then a and b ask y, to whom a is less FAR, then b asks z.
        c.due("three", turns.stable(), 3);
        c.lying("three", turns, 1, 2, 0);
        // Each is refused by whom the next one asks, up to eighteen times in all.
        String row = "man a at 6 fear 9 age 1;man b at 5 fear 9 age 1;man c at 4 fear 9 age 1;man d at 3 fear 9 age 1;man f at 2 fear 9 age 1;"
                + "man g at 1 fear 9 age 1;boy x at 0 calm 20;boy y at 0 calm 19;boy z at 0 calm 18;boy w at 0 calm 17;";
        NightLights six = Check.told(row);
        for (int time = 0; time < 2; time++) {
            c.due("four", six.stable(), 4);
            c.lying("four", six, -1, -1, 3, 2, 1, 0);
        }
        // Each MAN asks each BOY: 24 times in all, and the last one is not refused.
        NightLights most = Check.told("man a at 52 fear 1 age 13;man b at 88 fear 1 age 30;man c at 25 fear 1 age 44;man d at 98 fear 1 age 55;"
                + "man f at 16 fear 1 age 81;man g at 92 fear 1 age 11;boy w at 93 calm 13;boy x at 97 calm 1;boy y at 13 calm 12;boy z at 51 calm 18;"
                + "help age*calm%46+1;");
        c.due("asked 24 times", most.stable(), 4);
        c.lying("asked 24 times", most, 3, -1, -1, 1, 2, 0);
        Check.tell(six, "man a at 6 fear 9 age 1;boy x at 0 calm 20;");
        c.due("nobody refused him", six.stable(), 1);
        c.lying("nobody refused him", six, 0);
        d.says(Document.TERMS, "a BOY keeps whom he would rather have and refuses others; till nobody asks.");
        NightLights chain = Check.told("man a at 15 fear 9 age 1;man b at 25 fear 9 age 1;man c at 10 fear 9 age 1;"
                + "boy x at 10 calm 30;boy y at 20 calm 22;");
        c.due("he who is refused asks the next", chain.stable(), 2);
        c.lying("he who is refused asks the next", chain, 1, -1, 0);
    }

    private void jealous() {
        d.says(Document.TERMS, "if he has more HELP of this one than of that whom he has (than 0, if he has none)");
        NightLights x = Check.told("man a at 0 fear 9 age 1;boy x at 0 calm 5;boy y at 0 calm 5;boy z at 0 calm 6;boy w at 0 calm 0;");
        c.due("he has none: each who HELPS", x.jealous(0), 3);
        x.send(0, 0);
        c.due("as much is not more", x.jealous(0), 1);
        c.due("more", x.jealous(2), 2);
        x.recall(0);
        x.send(2, 0);
        c.due("none has more", x.jealous(0), 0);
        d.says(Document.TERMS, "and this one is less FAR from him than from whom he is SENT to (or is SENT to none)");
        NightLights y = Check.told("man a at 4 fear 9 age 1;man b at 6 fear 9 age 1;man c at 5 fear 9 age 1;boy x at 5 calm 9;");
        y.send(0, 0);
        c.due("as FAR is not less FAR", y.jealous(0), 1);
        c.due("less FAR", y.jealous(1), 2);
        y.recall(0);
        c.due("SENT to none", y.jealous(0), 3);
        d.says(Document.TERMS, "JEALOUS are a MAN and a BOY who is not SENT to him");
        NightLights own = Check.told("man a at 0 fear 9 age 1;boy x at 0 calm 5;");
        c.due("before", own.jealous(0), 1);
        own.send(0, 0);
        c.due("SENT to him", own.jealous(0), 0);
    }

    private void jealousAnswers() {
        d.says(25, "JEALOUS what 0: how many such two there are (0 .. ), 1: the least MAN of these, 2: the least BOY of those that are so with him");
        NightLights x = Check.told("man a at 0 fear 9 age 1;man b at 9 fear 9 age 1;man c at 9 fear 9 age 1;boy x at 40 calm 9;boy y at 9 calm 9;boy z at 9 calm 9;");
        c.due("two MEN, two BOYS", x.jealous(0), 4);
        c.due("the least MAN", x.jealous(1), 1);
        c.due("the least BOY with him", x.jealous(2), 1);
        c.due("without MEN", Check.told(BOYS_ALONE).jealous(0), 0);
        c.due("without BOYS", Check.told(MEN_ALONE).jealous(0), 0);
        StringBuilder all = new StringBuilder("help 1;");
        for (char name : "abcdfg".toCharArray()) {
            all.append("man ").append(name).append(" at 1 fear 9 age 1;");
        }
        for (char name : "abcd".toCharArray()) {
            all.append("boy ").append(name).append(" at 1 calm 9;");
        }
        c.due("all twos of six and four", Check.told(all.toString()).jealous(0), 24);
        d.says(25, "NONE of 1, 2 if there are none, or for another what.");
        NightLights none = Check.told("man a at 0 fear 9 age 1;boy x at 9 calm 9;");
        c.due("0", none.jealous(0), 0);
        c.refuses(none, "1", () -> none.jealous(1));
        c.refuses(none, "2", () -> none.jealous(2));
        refusesWild(x, "jealous", x::jealous, 3);
        refusesWild(none, "jealous", none::jealous, 3);
    }

    private void burning() {
        d.says(Document.TERMS, "(bit 0 the next one) on which he is LIT (on others he is not), no more than he has OIL now (none is poured)");
        NightLights x = Check.told("man a at 0 fear 3 age 1 oil 1 lit;man b at 0 fear 3 age 1 lit;man c at 0 fear 3 age 1 oil 2;tank 99;");
        c.due("one OIL", x.burning(0, 8, 0), 1);
        c.due("one OIL", x.burning(0, 8, 1), 1);
        c.due("no OIL", x.burning(1, 8, 0), 0);
        c.due("no OIL", x.burning(1, 8, 1), 0);
        c.due("not LIT now", x.burning(2, 8, 0), 2);
        c.due("not LIT now", x.burning(2, 8, 1), 3);
        NightLights bit = Check.told("man a at 0 fear 9 age 1 oil 5;boy x at 0 calm 1;help (night=4)*10;");
        bit.send(0, 0);
        c.due("bit 4", bit.burning(0, 8, 0), 1);
        c.due("bit 4", bit.burning(0, 8, 1), 16);
        bit.night();
        c.due("bit 0 is the next one", bit.burning(0, 8, 1), 8);
        NightLights last = Check.told("man a at 0 fear 5 age 1 oil 5;boy x at 0 calm 1;help (night=7)*9;");
        last.send(0, 0);
        c.due("bit 7", last.burning(0, 8, 1), 128);
        c.due("not in seven", last.burning(0, 7, 1), 0);
        d.says(Document.TERMS, "by which he SLEEPS on most (his BOY as now); of like ones the fewest, then the least set as bits.");
        NightLights few = Check.told("man a at 0 fear 0 age 1 oil 9 lit;man b at 0 fear 4 age 1 oil 9 lit;man c at 0 fear 2 age 1 oil 1;"
                + "man d at 0 fear 1 age 1 oil 9;");
        c.due("none is needed", few.burning(0, 8, 1), 0);
        c.due("none helps", few.burning(1, 8, 1), 0);
        c.due("the least set", few.burning(2, 2, 1), 1);
        c.due("one is enough", few.burning(3, 8, 0), 8);
        c.due("one is enough", few.burning(3, 8, 1), 1);
        NightLights his = Check.told("man a at 0 fear 8 age 1 oil 9;boy x at 0 calm 5;help calm;");
        c.due("without him", his.burning(0, 4, 0), 0);
        his.send(0, 0);
        // By the boy's 5 and 3 more he goes from 8 to 5, and SLEEPS on without LIGHT.
        c.due("his BOY", his.burning(0, 4, 0), 4);
        c.due("his BOY", his.burning(0, 4, 1), 7);
        NightLights inHelp = Check.told("man a at 0 fear 20 age 1 oil 2;boy x at 0 calm 5;help light*30;");
        inHelp.send(0, 0);
        c.due("LIGHT in help, too", inHelp.burning(0, 3, 0), 2);
        c.due("LIGHT in help, too", inHelp.burning(0, 3, 1), 3);
    }

    private void burningOfLikeOnes() {
        d.says(Document.TERMS, "of like ones the fewest, then the least set as bits.");
        NightLights few = Check.told("man a at 0 fear 10 age 1 oil 2;boy x at 0 calm 1;help 9*(night<2)+50*(night=2)*light*(fear=10);");
        few.send(0, 0);
        // 6 (the fear is 10 then) as well as 1, 3 and 5 make two.
        c.due("two", few.burning(0, 3, 0), 2);
        c.due("the fewest", few.burning(0, 3, 1), 1);
        NightLights fewer = Check.told("man a at 0 fear 20 age 1 oil 3;boy x at 0 calm 1;help 99*((night=0)*light*(fear=20)"
                + "+(night=1)*((1-light)*(fear=21)+light*(fear=19))+(night=2)*light*(fear=20));");
        fewer.send(0, 0);
        // 3 and 5 make two as well, by more OIL.
        c.due("two", fewer.burning(0, 3, 0), 2);
        c.due("the fewest, though not the least", fewer.burning(0, 3, 1), 4);
        NightLights least = Check.told("man a at 0 fear 40 age 1 oil 2;boy x at 0 calm 1;pipes 100;help 99*light*((night=21)+(night=22)*(fear=99)"
                + "+(night=23)*(fear=98)+(night=24)*(fear=99));");
        least.send(0, 0);
        for (int i = 0; i < 21; i++) {
            least.night();
        }
        c.due("FEAR", least.man(0, 1), 99);
        // 10 and 9 make two as well.
        c.due("two", least.burning(0, 4, 0), 2);
        c.due("the least", least.burning(0, 4, 1), 6);
        NightLights dazzled = Check.told("man a at 0 fear 6 age 1 oil 5;boy x at 0 calm 1;help 5*(1-light);");
        dazzled.send(0, 0);
        c.due("LIGHT takes more than it gives", dazzled.burning(0, 8, 0), 0);
        c.due("LIGHT takes more than it gives", dazzled.burning(0, 8, 1), 0);
    }

    private void burningAnswers() {
        d.says(26, "BURNING (n 0 .. 8) what 0: on how many he SLEEPS, 1: on which he is LIT, as bits");
        NightLights x = Check.told("man a at 0 fear 3 age 1 oil 20 lit;");
        c.due("0 NIGHTS", x.burning(0, 0, 0), 0);
        c.due("0 NIGHTS", x.burning(0, 0, 1), 0);
        c.due("1 NIGHT", x.burning(0, 1, 0), 1);
        c.due("1 NIGHT", x.burning(0, 1, 1), 1);
        c.due("8 NIGHTS", x.burning(0, 8, 0), 8);
        c.due("8 NIGHTS", x.burning(0, 8, 1), 7);
        NightLights all = Check.told("man a at 0 fear 3 age 1 oil 20;boy x at 0 calm 1;help (fear+3)*light*(age=2)+(1-light)*0;");
        c.due("8 NIGHTS", all.burning(0, 8, 0), 8);
        d.says(26, "NONE if one can't be.");
        refusesWild(x, "burning by n", n -> x.burning(0, n, 0), 9);
        refusesWild(x, "burning of a MAN", man -> x.burning(man, 1, 0), 1);
        refusesWild(x, "burning by what", what -> x.burning(0, 1, what), 2);
        c.due("without MEN", new NightLights().burning(0, 0, 0), -1);
    }

    private void need() {
        d.says(27, "NEED (n 0 .. 60)");
        NightLights x = Check.told("man a at 0 fear 3 age 1 oil 2 lit;man b at 0 fear 3 age 1 lit;man c at 0 fear 3 age 1 oil 9;");
        c.due("0", x.need(0), 0);
        c.due("1", x.need(1), 2);
        c.due("60", x.need(60), 120);
        d.says(Document.TERMS, "how much OIL all would burn in these, LIT as now, if there were enough for them");
        c.due("more than there is", x.need(10), 20);
        x.light(2);
        c.due("LIT as now", x.need(10), 30);
        x.snuff(0);
        x.snuff(1);
        x.snuff(2);
        c.due("none LIT", x.need(60), 0);
        d.says(27, "NONE for another n.");
        refusesWild(x, "need", x::need, 61);
        NightLights none = new NightLights();
        c.due("without MEN", none.need(60), 0);
        c.due("without MEN", none.need(61), -1);
    }

    private void least() {
        d.says(Document.TERMS, "the least calm (0 .. 99, in place of his) by which, SENT to him (in place of whom he has), the MAN would SLEEP");
        NightLights x = Check.told("man a at 0 fear 0 age 1;man b at 98 fear 1 age 1;man c at 99 fear 1 age 1;man d at 0 fear 40 age 1;"
                + "boy x at 0 calm 30;boy y at 0 calm 1;");
        c.due("0", x.least(0, 0), 0);
        c.due("99", x.least(0, 1), 99);
        c.due("above what a BOY's calm can be", x.least(0, 3), 40);
        c.due("not by his own calm", x.least(1, 3), 40);
        x.send(1, 3);
        c.due("in place of whom he has", x.least(0, 3), 40);
        c.due("who is SENT to him", x.least(1, 3), 40);
        c.due("though he is SENT to another", x.least(1, 1), 99);
        NightLights lit = Check.told("man a at 0 fear 9 age 1 oil 1 lit;man b at 0 fear 3 age 1 oil 1 lit;boy x at 5 calm 1;");
        c.due("3 less by LIGHT", lit.least(0, 0), 11);
        c.due("by LIGHT alone", lit.least(0, 1), 0);
        NightLights holes = Check.told("man a at 0 fear 5 age 1;boy x at 0 calm 30;help (calm=17 or calm>40)*9;");
        c.due("the least of several", holes.least(0, 0), 17);
        d.says(28, "LEAST; NONE if by none, or one can't be.");
        c.refuses(x, "by none", () -> x.least(0, 2));
        refusesWild(x, "least of a BOY", boy -> x.least(boy, 0), 2);
        refusesWild(x, "least for a MAN", man -> x.least(0, man), 4);
        c.due("without MEN", Check.told(BOYS_ALONE).least(0, 0), -1);
        c.due("without BOYS", Check.told(MEN_ALONE).least(0, 0), -1);
    }

    private void rivals() {
        d.says(Document.TERMS, "RIVALS of two BOYS who are SENT to none: each goes to a MAN who has none");
        NightLights taken = Check.told("man a at 0 fear 9 age 1;man b at 5 fear 9 age 1;boy x at 0 calm 9;boy y at 0 calm 8;boy z at 0 calm 1;");
        c.due("both to a, or the lesser one to b", taken.rivals(0, 1), 1);
        c.lying("both to a, or the lesser one to b", taken, 0, 1);
        taken.send(2, 0);
        c.due("b alone is left", taken.rivals(0, 1), 1);
        c.lying("b alone is left", taken, 1, 1);
        d.says(29, "RIVALS: how many RESTS");
        NightLights all = Check.told("man a at 1 fear 9 age 1;man b at 2 fear 9 age 1;man c at 3 fear 9 age 1;boy x at 0 calm 5;boy y at 0 calm 6;help 0;");
        c.due("all twos", all.rivals(0, 1), 9);
        c.lying("the first of them", all, 0, 0);
        NightLights one = Check.told("man a at 1 fear 9 age 1;boy x at 0 calm 5;boy y at 0 calm 6;");
        c.due("one MAN", one.rivals(0, 1), 1);
        c.lying("one MAN", one, 0, 0);
        d.says(Document.TERMS, "if both to one, the calmer one HELPS (of like ones the first of both), the other one has 0; each has his HELP");
        String prized = "man a at 1 fear 9 age 1;man b at 9 fear 9 age 1;boy x at 0 calm 5;boy y at 0 calm 6;help far;";
        NightLights calmer = Check.told(prized);
        c.due("the calmer one has b", calmer.rivals(0, 1), 1);
        c.lying("the calmer one has b", calmer, 0, 1);
        c.due("the other way round", calmer.rivals(1, 0), 1);
        c.lying("the other way round", calmer, 1, 0);
        NightLights like = Check.told(prized.replace("calm 6", "calm 5"));
        like.rivals(0, 1);
        c.lying("the first of both has b", like, 1, 0);
        like.rivals(1, 0);
        c.lying("the first of both has b", like, 1, 0);
        d.says(Document.TERMS, "at RESTS neither, the other one's going so, would have more by another MAN");
        NightLights two = Check.told("man a at 1 fear 9 age 1;man b at 1 fear 9 age 1;boy x at 0 calm 5;boy y at 0 calm 6;");
        c.due("as much is not more", two.rivals(0, 1), 2);
        c.lying("of like ones the least numbers", two, 0, 1);
        NightLights zero = Check.told("man a at 1 fear 9 age 1;man b at 50 fear 9 age 1;boy x at 0 calm 5;boy y at 0 calm 6;");
        c.due("0 by either", zero.rivals(0, 1), 2);
        c.lying("0 by either", zero, 0, 0);
        d.says(29, "The MEN of the first of these lie there then (the first one's, the other one's; of like ones the least numbers; behind 0, NONE: nothing).");
        zero.rivals(1, 0);
        c.lying("the first one's, the other one's", zero, 0, 0);
        calmer.rivals(1, 0);
        c.lying("the first one's, the other one's", calmer, 1, 0);
        calmer.rivals(0, 0);
        c.lying("behind NONE", calmer);
    }

    private void rivalsRefused() {
        d.says(29, "NONE if both are one, one is SENT, every MAN has one, or one can't be.");
        NightLights x = Check.told(LANE + "boy max at 1 calm 1;");
        x.rivals(-1, 0);
        c.refuses(x, "both are one", () -> x.rivals(0, 0));
        c.refuses(x, "both are one", () -> x.rivals(2, 2));
        refusesWild(x, "rivals of a BOY", boy -> x.rivals(boy, 0), 3);
        refusesWild(x, "rivals of another BOY", boy -> x.rivals(0, boy), 3);
        c.refuses(x, "both can't be", () -> x.rivals(3, 3));
        x.send(0, 1);
        c.refuses(x, "the first is SENT", () -> x.rivals(0, 1));
        c.refuses(x, "the other is SENT", () -> x.rivals(1, 0));
        c.due("two others", x.rivals(1, 2) >= 1, true);
        c.due("not to the MAN who has one", x.lies(0) != 1 && x.lies(1) != 1, true);
        NightLights full = Check.told("man a at 1 fear 9 age 1;" + BOYS_ALONE + "boy z at 1 calm 1;");
        full.send(0, 0);
        c.refuses(full, "every MAN has one", () -> full.rivals(1, 2));
        full.recall(0);
        c.due("he has none", full.rivals(1, 2), 1);
        NightLights none = Check.told(BOYS_ALONE);
        c.refuses(none, "without MEN", () -> none.rivals(0, 1));
    }

    private void home() {
        d.says(Document.TERMS, "HOME of a BOY: the PLACE (0 .. 99) where he should live so that his HELP to all MEN together is most; of like ones the least.");
        NightLights first = Check.told("man a at 0 fear 5 age 1;boy x at 50 calm 9;");
        c.due("PLACE 0", first.home(0, 0), 0);
        NightLights last = Check.told("man a at 99 fear 5 age 1;boy x at 50 calm 9;");
        c.due("PLACE 99", last.home(0, 0), 99);
        NightLights beyond = Check.told("man a at 50 fear 5 age 1;boy x at 50 calm 9;help far;");
        c.due("far from 50: 0, not 100", beyond.home(0, 0), 0);
        c.due("50", beyond.home(0, 1), 50);
        NightLights like = Check.told("man a at 10 fear 5 age 1;man b at 14 fear 5 age 1;boy x at 50 calm 9;");
        c.due("the least of 10 .. 14", like.home(0, 0), 10);
        c.due("14", like.home(0, 1), 14);
        NightLights nothing = Check.told("man a at 10 fear 5 age 1;boy x at 50 calm 0;");
        c.due("HELP 0 wherever", nothing.home(0, 0), 0);
        c.due("HELP 0 wherever", nothing.home(0, 1), 0);
        c.due("without MEN", Check.told(BOYS_ALONE).home(1, 0), 0);
        c.due("without MEN", Check.told(BOYS_ALONE).home(1, 1), 0);
        d.says(30, "HOME what 0: the PLACE, 1: HELP to all together then");
        NightLights now = Check.told("man a at 10 fear 5 age 1;man b at 90 fear 5 age 1 lit;boy x at 50 calm 9;help (9-far)*(9>far)*(1+light);tank 9;");
        c.due("10", now.home(0, 0), 10);
        c.due("9", now.home(0, 1), 9);
        now.pour(1, 1);
        c.due("by the LIGHT of now", now.home(0, 0), 90);
        c.due("by the LIGHT of now", now.home(0, 1), 18);
        d.says(30, "NONE if there is none such, or for another what.");
        refusesWild(like, "home of a BOY", boy -> like.home(boy, 0), 1);
        refusesWild(like, "home by what", what -> like.home(0, what), 2);
        c.due("without BOYS", Check.told(MEN_ALONE).home(0, 0), -1);
    }

    private void trade() {
        d.says(31, "The two BOYS who are SENT by the exchange of whose MEN most would SLEEP now, if that is more than now");
        NightLights x = Check.told("man a at 0 fear 5 age 1;man b at 9 fear 5 age 1;man c at 0 fear 0 age 1;boy x at 9 calm 5;boy y at 0 calm 5;boy z at 0 calm 5;");
        c.refuses(x, "none is SENT", () -> x.trade(0));
        x.send(0, 0);
        c.refuses(x, "one is SENT", () -> x.trade(0));
        x.send(1, 1);
        c.due("the first one", x.trade(0), 0);
        c.due("the other one", x.trade(1), 1);
        c.due("how many would SLEEP, the third MAN too", x.trade(2), 3);
        NightLights like = Check.told("man a at 0 fear 5 age 1;man b at 0 fear 5 age 1;boy x at 0 calm 5;boy y at 0 calm 4;");
        like.send(0, 0);
        like.send(1, 1);
        c.refuses(like, "as many is not more", () -> like.trade(0));
        c.refuses(like, "as many is not more", () -> like.trade(2));
        d.says(31, "of like ones the first (the lesser number, then the other one)");
        NightLights ring = Check.told("man a at 0 fear 5 age 1;man b at 20 fear 5 age 1;man c at 40 fear 5 age 1;"
                + "boy x at 20 calm 5;boy y at 40 calm 5;boy z at 0 calm 5;");
        ring.send(0, 0);
        ring.send(1, 1);
        ring.send(2, 2);
        c.due("0 and 1, not 0 and 2", ring.trade(0), 0);
        c.due("0 and 1, not 0 and 2", ring.trade(1), 1);
        NightLights later = Check.told("man a at 0 fear 5 age 1;man b at 20 fear 5 age 1;man c at 40 fear 5 age 1;man d at 60 fear 5 age 1;"
                + "boy w at 0 calm 5;boy x at 40 calm 5;boy y at 60 calm 5;boy z at 20 calm 5;");
        for (int boy = 0; boy < 4; boy++) {
            later.send(boy, boy);
        }
        c.due("1 and 2", later.trade(0), 1);
        c.due("1 and 2", later.trade(1), 2);
        c.due("two would SLEEP", later.trade(2), 2);
    }

    private void tradeAnswers() {
        d.says(31, "what 0: the first one, 1: the other one, 2: how many would SLEEP;");
        NightLights far = Check.told("man a at 0 fear 5 age 1;man b at 9 fear 5 age 1;boy w at 50 calm 1;boy x at 9 calm 5;boy y at 0 calm 5;");
        far.send(1, 0);
        far.send(2, 1);
        c.due("trade(0)", far.trade(0), 1);
        c.due("trade(1)", far.trade(1), 2);
        c.due("trade(2)", far.trade(2), 2);
        // b SLEEPS now and then; c, or else a, SLEEPS only then: nobody counts twice.
        NightLights twice = Check.told("man a at 0 fear 9 age 1;man b at 5 fear 3 age 1;man c at 9 fear 5 age 1;boy x at 9 calm 7;boy y at 5 calm 5;");
        twice.send(0, 1);
        twice.send(1, 2);
        c.due("b alone SLEEPS", twice.sleepers(), 2);
        c.due("both", twice.trade(2), 2);
        NightLights other = Check.told("man a at 0 fear 9 age 1;man b at 9 fear 5 age 1;man c at 5 fear 3 age 1;boy x at 5 calm 5;boy y at 9 calm 7;");
        other.send(0, 1);
        other.send(1, 2);
        c.due("c alone SLEEPS", other.sleepers(), 4);
        c.due("both", other.trade(2), 2);
        NightLights same = Check.told("man a at 0 fear 9 age 1;man b at 5 fear 1 age 1;man c at 5 fear 1 age 1;boy x at 5 calm 5;boy y at 5 calm 7;");
        same.send(0, 1);
        same.send(1, 2);
        c.refuses(same, "both SLEEP now and then", () -> same.trade(2));
        NightLights lit = Check.told("man a at 0 fear 8 age 1 oil 1 lit;man b at 9 fear 5 age 1;boy x at 9 calm 5;boy y at 0 calm 5;");
        lit.send(0, 0);
        lit.send(1, 1);
        c.due("by HELP and LIGHT", lit.trade(2), 2);
        d.says(31, "NONE if there are none, or for another what.");
        NightLights x = Check.told("man a at 0 fear 5 age 1;man b at 9 fear 5 age 1;boy x at 9 calm 5;boy y at 0 calm 5;");
        for (int what = 0; what <= 2; what++) {
            c.due("there are none", x.trade(what), -1);
        }
        x.send(0, 0);
        x.send(1, 1);
        c.due("there are two", x.trade(0), 0);
        refusesWild(x, "trade", x::trade, 3);
        NightLights none = new NightLights();
        refusesWild(none, "trade", none::trade, 0, 1, 2, 3);
    }

    private void idle() {
        d.says(32, "BOYS who are SENT to none, as bits.");
        NightLights x = Check.told("man a at 0 fear 5 age 1;man b at 9 fear 5 age 1;man c at 9 fear 5 age 1;man d at 9 fear 5 age 1;"
                + "boy w at 9 calm 5;boy x at 0 calm 5;boy y at 0 calm 5;boy z at 0 calm 5;");
        int due = 15;
        for (int boy = 3; boy >= 0; boy--) {
            c.due("idle()", x.idle(), due);
            x.send(boy, boy);
            due &= ~(1 << boy);
        }
        c.due("all are SENT", x.idle(), 0);
        c.due("without BOYS", Check.told(MEN_ALONE).idle(), 0);
        c.due("without MEN", Check.told(BOYS_ALONE).idle(), 3);
    }

    private void dark() {
        d.says(33, "MEN who are LIT and have no OIL, as bits.");
        NightLights x = Check.told("man a at 0 fear 5 age 1;man b at 9 fear 5 age 1 oil 1;man c at 9 fear 5 age 1 oil 1 lit;man d at 9 fear 5 age 1 lit;");
        c.due("LIT without OIL", x.dark(), 8);
        c.due("the first", Check.told("man a at 0 fear 5 age 1 lit;man b at 9 fear 5 age 1 oil 1 lit;").dark(), 1);
        x.night();
        c.due("it is burnt", x.dark(), 12);
        x.snuff(3);
        c.due("put out", x.dark(), 4);
        c.due("without MEN", new NightLights().dark(), 0);
    }

    private void glow() {
        d.says(34, "MEN who would not SLEEP now and would, had they LIGHT (in help, too), as bits.");
        NightLights x = Check.told("man a at 0 fear 0 age 1;man b at 9 fear 1 age 1;man c at 9 fear 3 age 1 lit;man d at 9 fear 4 age 1;"
                + "man f at 9 fear 3 age 1 oil 1 lit;man g at 9 fear 4 age 1 oil 1 lit;");
        c.due("1 and 3, not 0 and 4, nor who has it", x.glow(), 6);
        NightLights inHelp = Check.told("man a at 0 fear 9 age 1;man b at 0 fear 10 age 1;boy x at 0 calm 1;boy y at 0 calm 1;help 1+5*light;");
        inHelp.send(0, 0);
        inHelp.send(1, 1);
        c.due("6 and 3", inHelp.glow(), 1);
        NightLights less = Check.told("man a at 0 fear 5 age 1;boy x at 0 calm 1;help 4*(1-light);");
        less.send(0, 0);
        c.due("less HELP by LIGHT", less.glow(), 0);
        c.due("without MEN", new NightLights().glow(), 0);
    }

    private void blest() {
        d.says(35, "The MAN who has most HELP of the BOY who is SENT to him; of like ones the first; NONE if none has one.");
        NightLights x = Check.told("man a at 0 fear 0 age 1;man b at 0 fear 1 age 1;man c at 0 fear 3 age 1 oil 9 lit;"
                + "boy x at 0 calm 5;boy y at 0 calm 5;boy z at 0 calm 0;");
        c.due("none has one", x.blest(), -1);
        x.send(2, 1);
        c.due("HELP 0 of one", x.blest(), 1);
        x.send(0, 2);
        c.due("most", x.blest(), 2);
        x.send(1, 0);
        c.due("of like ones the first, LIGHT is no HELP", x.blest(), 0);
        c.due("without MEN", new NightLights().blest(), -1);
    }

    private void timid() {
        d.says(36, "The MAN of the greatest FEAR; of like ones the first; NONE without MEN.");
        c.due("without MEN", new NightLights().timid(), -1);
        c.due("without MEN", Check.told(BOYS_ALONE).timid(), -1);
        c.due("of like ones", Check.told("man a at 0 fear 4 age 1;man b at 0 fear 5 age 1;man c at 0 fear 5 age 1;").timid(), 1);
        c.due("FEAR 0", Check.told("man a at 0 fear 0 age 1;man b at 0 fear 0 age 1;").timid(), 0);
        NightLights x = Check.told("man a at 0 fear 3 age 1 oil 5 lit;man b at 0 fear 2 age 1;");
        c.due("as told", x.timid(), 0);
        x.night();
        c.due("as it is now", x.timid(), 1);
    }

    private void nearest() {
        d.says(37, "The MAN who is least FAR from a BOY; of like ones the first; NONE without MEN, or if there is none such.");
        NightLights x = Check.told("man a at 99 fear 1 age 1;man b at 6 fear 1 age 1;man c at 4 fear 1 age 1;boy x at 5 calm 1;boy y at 99 calm 1;boy z at 4 calm 1;");
        c.due("of like ones", x.nearest(0), 1);
        c.due("no step", x.nearest(1), 0);
        c.due("the last", x.nearest(2), 2);
        c.due("99 steps", Check.told("man a at 99 fear 1 age 1;boy x at 0 calm 1;").nearest(0), 0);
        c.due("without MEN", Check.told(BOYS_ALONE).nearest(0), -1);
        refusesWild(x, "nearest", x::nearest, 3);
        c.due("without BOYS", Check.told(MEN_ALONE).nearest(0), -1);
    }

    private void between() {
        d.says(38, "MEN between two PLACES (these, too; whichever is the greater one), as bits; NONE if one is none.");
        NightLights x = Check.told("man a at 0 fear 1 age 1;man b at 10 fear 1 age 1;man c at 20 fear 1 age 1;man d at 99 fear 1 age 1;man f at 20 fear 1 age 1;");
        c.due("these, too", x.between(10, 20), 2 + 4 + 16);
        c.due("whichever", x.between(20, 10), 2 + 4 + 16);
        c.due("within these", x.between(11, 19), 0);
        c.due("one", x.between(11, 20), 4 + 16);
        c.due("one", x.between(10, 19), 2);
        c.due("one PLACE", x.between(20, 20), 4 + 16);
        c.due("all", x.between(0, 99), 31);
        c.due("all", x.between(99, 0), 31);
        c.due("the ends", x.between(0, 0), 1);
        c.due("the ends", x.between(99, 99), 8);
        refusesWild(x, "between", place -> x.between(place, 5), 100);
        refusesWild(x, "between", place -> x.between(5, place), 100);
        c.refuses(x, "both are none", () -> x.between(-1, 100));
        c.refuses(x, "both are none", () -> x.between(100, -1));
        c.due("without MEN", new NightLights().between(0, 99), 0);
        c.due("without MEN", new NightLights().between(0, 100), -1);
    }

    private void law() {
        d.says(39, "How many would SLEEP now, if each MAN's FEAR were n (0 .. 99; in help, too)");
        NightLights x = Check.told("man a at 0 fear 40 age 1;man b at 0 fear 1 age 1 oil 1 lit;man c at 0 fear 1 age 1;boy x at 0 calm 1;help fear;");
        c.due("0", x.law(0), 3);
        c.due("1", x.law(1), 1);
        c.due("3", x.law(3), 1);
        c.due("4", x.law(4), 0);
        x.send(0, 2);
        c.due("in help, too", x.law(4), 1);
        c.due("99", x.law(99), 1);
        d.says(39, "NONE for another n.");
        refusesWild(x, "law", x::law, 100);
        c.due("without MEN", new NightLights().law(0), 0);
        c.due("without MEN", new NightLights().law(100), -1);
    }

    private void odds() {
        d.says(Document.TERMS, "ODDS: that no pipe knocks for a MAN in n NIGHTS, whatever the SEED is.");
        for (int men = 0; men <= 2; men++) {
            NightLights few = Check.told("pipes 30;draw 1;" + "man a at 0 fear 1 age 1;man b at 0 fear 1 age 1;".substring(0, men * 24));
            c.due("for a MAN, however many there are", few.odds(2, 0), 49);
            c.due("for a MAN, however many there are", few.odds(2, 1), 100);
        }
        d.says(40, "ODDS (n 0 .. 4) the upper part (0), the lower part (1), in lowest terms (0 of 1)");
        int[][] due = {{0, 0, 1, 1}, {0, 4, 1, 1}, {1, 0, 1, 1}, {1, 1, 99, 100}, {1, 4, 96059601, 100000000}, {50, 4, 1, 16},
            {99, 1, 1, 100}, {99, 4, 1, 100000000}, {100, 0, 1, 1}, {100, 1, 0, 1}, {100, 4, 0, 1}, {20, 3, 64, 125}, {36, 1, 16, 25}};
        for (int[] each : due) {
            NightLights x = Check.told("man a at 0 fear 1 age 1;man b at 0 fear 1 age 1;draw 5;pipes " + each[0] + ";");
            c.due("pipes " + each[0] + ", odds(" + each[1] + ", 0)", x.odds(each[1], 0), each[2]);
            c.due("pipes " + each[0] + ", odds(" + each[1] + ", 1)", x.odds(each[1], 1), each[3]);
            x.night();
            c.due("whatever the SEED is", x.odds(each[1], 0), each[2]);
        }
        d.says(40, "NONE if one can't be.");
        NightLights y = lane();
        refusesWild(y, "odds by n", n -> y.odds(n, 0), 5);
        refusesWild(y, "odds by part", part -> y.odds(1, part), 2);
        c.due("a new object", new NightLights().odds(4, 0), 1);
        c.due("a new object", new NightLights().odds(4, 1), 1);
    }

    private void sixAndFour() {
        d.says(Document.TERMS, "At most 6 MEN");
        StringBuilder text = new StringBuilder("tank 99;pipes 10;draw 5;");
        for (int i = 0; i < 6; i++) {
            text.append("man ").append("abcdfg".charAt(i)).append(" at ").append(10 * i).append(" fear ").append(5 + i).append(" age 50 oil 1 lit;");
        }
        for (int i = 0; i < 4; i++) {
            text.append("boy ").append("wxyz".charAt(i)).append(" at ").append(50 - 10 * i).append(" calm ").append(10 + i).append(";");
        }
        NightLights x = Check.told(text.toString());
        c.due("sending(0)", x.sending(0), 4);
        c.lying("sending", x, -1, -1, 3, 2, 1, 0);
        c.due("sending(1)", x.sending(1), 46);
        c.due("stable()", x.stable(), 4);
        c.lying("stable", x, -1, -1, 3, 2, 1, 0);
        c.due("jealous(0)", x.jealous(0), 4 + 3 + 2 + 1);
        c.due("jealous(1)", x.jealous(1), 1);
        c.due("jealous(2)", x.jealous(2), 3);
        c.due("round(0)", x.round(0), 50);
        c.lying("round", x, 5, 4, 3, 2, 1, 0);
        c.due("twelve(3, 30, 1)", x.twelve(3, 30, 1), 4 + 8 + 16 + 32);
        c.due("rivals(2, 3)", x.rivals(2, 3) > 0, true);
        c.due("home(0, 1)", x.home(0, 1), 10);
        c.due("need(60)", x.need(60), 360);
        c.due("glow()", x.glow(), 0);
        c.due("dark()", x.dark(), 0);
        c.due("timid()", x.timid(), 5);
        c.due("nearest(0)", x.nearest(0), 5);
        c.due("between(50, 99)", x.between(50, 99), 32);
        c.due("law(3)", x.law(3), 6);
        c.due("calm()", x.calm(), -1);
        c.due("burning(5, 8, 0)", x.burning(5, 8, 0), 0);
        for (int boy = 0; boy < 4; boy++) {
            c.due("send(" + boy + ", " + (5 - boy) + ")", x.send(boy, 5 - boy), 13 + boy);
        }
        c.due("sleepers()", x.sleepers(), 60);
        c.due("idle()", x.idle(), 0);
        c.due("blest()", x.blest(), 2);
        c.due("jealous(0) then", x.jealous(0), 0);
        c.due("trade(0)", x.trade(0), -1);
        c.due("least(3, 5)", x.least(3, 5), 37);
        c.due("burning(5, 8, 0)", x.burning(5, 8, 0), 8);
        c.due("will(5, 60, 0)", x.will(5, 60, 0), 0);
        c.due("asleep(60)", x.asleep(60), 60);
        c.due("night()", x.night(), 60);
        c.due("dark()", x.dark(), 63);
        x.seen(1, true);
        c.due("fits(0)", x.fits(0), 4);
        c.due("image(0)", x.image(0), 1);
        c.due("undo()", x.undo(), true);
        c.due("back(0)", x.back(0), 1);
    }
}
