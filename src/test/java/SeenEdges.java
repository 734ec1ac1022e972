/** Boundary cases of what is SEEN and of what is told about all, sentence by sentence: ==== 4, promises 41 to 47 and 50. */
final class SeenEdges {
    private static final String ONE = "man a at 0 fear 9 age 1 oil 2 lit;";
    private static final int ALL = 41;

    private final Check c;
    private final Document d;

    SeenEdges(Check c, Document d) {
        this.c = c;
        this.d = d;
    }

    void all() {
        lies();
        seen();
        thirty();
        untell();
        later();
        knownAt();
        asTold();
        fits();
        sure();
        ask();
        about();
    }

    private void lies() {
        d.says(41, "The i-th number of what lies there; -2 if there is none such.");
        NightLights x = Check.told("man a at 1 fear 1 age 1;man b at 2 fear 1 age 1;boy x at 0 calm 9;");
        c.due("nothing lies there", x.lies(0), -2);
        x.round(0);
        c.due("the first", x.lies(0), 0);
        c.due("the last", x.lies(1), 1);
        c.leaves(x, "behind the last", () -> x.lies(2), -2);
        for (int wild : Check.WILD) {
            c.leaves(x, "lies(" + wild + ")", () -> x.lies(wild), -2);
        }
        x.stable();
        c.due("a number that is -1", x.lies(0), 0);
        c.due("a number that is -1", x.lies(1), -1);
        x.rivals(0, 0);
        c.due("nothing any more", x.lies(0), -2);
    }

    private void seen() {
        d.says(42, "A SEEN (a NIGHT 1 .. 12): its number");
        NightLights x = Check.told(ONE);
        c.due("NIGHT 1", x.seen(1, false), 0);
        c.due("NIGHT 12", x.seen(12, false), 1);
        c.due("the same once more", x.seen(12, false), 2);
        d.says(42, "NONE, doing nothing, if one can't be, there are 30, or no MEN.");
        for (int night : new int[] {0, 13}) {
            c.refuses(x, "seen(" + night + ", true)", () -> x.seen(night, true));
        }
        for (int wild : Check.WILD) {
            c.refuses(x, "seen(" + wild + ", true)", () -> x.seen(wild, true));
            c.refuses(x, "seen(" + wild + ", false)", () -> x.seen(wild, false));
        }
        NightLights none = Check.told("boy x at 0 calm 9;");
        c.refuses(none, "no MEN", () -> none.seen(1, true));
        c.refuses(none, "no MEN", () -> none.seen(1, false));
    }

    private void thirty() {
        d.says(Document.TERMS, "SEEN, 30 at most, is TOLD at a TIME (0 at first, goes on)");
        NightLights x = Check.told(ONE);
        c.due("TIME", x.about(9), 0);
        for (int i = 0; i < 30; i++) {
            c.due("its number", x.seen(1 + i % 12, false), i);
            c.due("SEEN", x.about(8), i + 1);
        }
        c.refuses(x, "a 31st", () -> x.seen(1, true));
        c.due("the last one is UNTOLD", x.untell(29), true);
        c.refuses(x, "a 31st, though one is UNTOLD", () -> x.seen(1, true));
        c.due("a new parish", Check.tell(x, ONE), 1);
        c.due("begins anew", x.seen(1, true), 0);
    }

    private void untell() {
        d.says(43, "It is UNTOLD: true; false if it is so already, or there is none such.");
        NightLights x = Check.told(ONE);
        c.refusesSo(x, "none such", () -> x.untell(0));
        x.seen(1, true);
        x.seen(2, true);
        c.due("untell(1)", x.untell(1), true);
        c.refusesSo(x, "already", () -> x.untell(1));
        x.later(5);
        c.refusesSo(x, "already", () -> x.untell(1));
        c.refusesSo(x, "none such", () -> x.untell(2));
        for (int wild : Check.WILD) {
            c.refusesSo(x, "untell(" + wild + ")", () -> x.untell(wild));
        }
        c.due("untell(0)", x.untell(0), true);
        c.due("the TIME of the second stays", x.fits(0), 4);
    }

    private void later() {
        d.says(44, "So much later (0 .. 1000): the TIME");
        NightLights x = Check.told(ONE);
        c.leaves(x, "later(0)", () -> x.later(0), 0);
        c.due("later(1000)", x.later(1000), 1000);
        c.due("later(1)", x.later(1), 1001);
        d.says(44, "NONE, doing nothing, for another number, or if it would be above 100,000.");
        c.refuses(x, "later(1001)", () -> x.later(1001));
        for (int wild : Check.WILD) {
            c.refuses(x, "later(" + wild + ")", () -> x.later(wild));
        }
        for (int i = 0; i < 98; i++) {
            x.later(1000);
        }
        c.due("the TIME", x.about(9), 99001);
        c.refuses(x, "100,001", () -> x.later(1000));
        c.due("100,000", x.later(999), 100000);
        c.refuses(x, "100,001", () -> x.later(1));
        c.leaves(x, "later(0)", () -> x.later(0), 100000);
        c.due("SEEN at the last TIME", x.seen(1, true), 0);
        c.due("before", x.fits(99999), ALL);
        c.due("then", x.fits(100000), 4);
    }

    private void knownAt() {
        d.says(Document.TERMS, "is TOLD at a TIME (0 at first, goes on), UNTOLD at a later one or the same");
        NightLights x = Check.told(ONE);
        x.later(10);
        x.seen(1, true);
        x.later(10);
        x.untell(0);
        int[][] due = {{9, ALL}, {10, 4}, {11, 4}, {19, 4}, {20, ALL}, {21, ALL}, {0, ALL}, {-1, ALL},
            {Integer.MIN_VALUE, ALL}, {Integer.MAX_VALUE, ALL}};
        d.says(Document.TERMS, "As known at k that counts that was TOLD at k or before, not UNTOLD at k or before.");
        for (int[] each : due) {
            c.due("fits(" + each[0] + ")", x.fits(each[0]), each[1]);
        }
        x.seen(1, true);
        x.untell(1);
        c.due("UNTOLD at the same TIME", x.fits(20), ALL);
        c.due("UNTOLD at the same TIME", x.fits(19), 4);
        x.seen(1, true);
        c.due("not UNTOLD: fits(20)", x.fits(20), 4);
        c.due("not UNTOLD: fits at the end", x.fits(Integer.MAX_VALUE), 4);
    }

    private void asTold() {
        d.says(Document.TERMS, "of the parish as it was told (nobody SENT; OIL, LIT as told), but for the last MAN's fear, which is not known");
        NightLights x = Check.told("man z at 0 fear 0 age 1 oil 9 lit;" + ONE + "boy x at 0 calm 30;tank 20;");
        x.send(0, 1);
        x.pour(1, 9);
        x.night();
        x.snuff(1);
        // Two OIL: 0 .. 3 SLEEP on NIGHTS 1 and 2, 0 .. 2 from NIGHT 3 on; the others never do.
        x.seen(2, true);
        c.due("NIGHT 2", x.fits(0), 4);
        c.due("the greatest", x.sure(1, 0), 3);
        x.untell(0);
        x.seen(3, true);
        c.due("NIGHT 3", x.fits(0), 3);
        c.due("the greatest", x.sure(1, 0), 2);
        x.untell(1);
        x.seen(12, true);
        c.due("NIGHT 12", x.fits(0), 3);
        NightLights dark = Check.told("man a at 0 fear 9 age 1 oil 20;man b at 0 fear 9 age 1 lit;");
        dark.light(0);
        dark.seen(1, true);
        c.due("LIT without OIL: 0 alone", dark.fits(0), 1);
        c.due("0", dark.sure(1, 0), 0);
        NightLights unlit = Check.told("man a at 0 fear 9 age 1 oil 5 lit;man b at 0 fear 9 age 1 oil 5;");
        unlit.light(1);
        unlit.seen(1, true);
        c.due("OIL, not LIT: 0 alone", unlit.fits(0), 1);
        NightLights full = Check.told("man a at 0 fear 9 age 1 oil 20 lit;");
        full.seen(12, true);
        c.due("OIL for all NIGHTS: 0 .. 3", full.fits(0), 4);
        d.says(Document.TERMS, "that on the so-manieth NIGHT (1 .. 12) he would SLEEP, or would not");
        NightLights would = Check.told(ONE);
        would.seen(1, false);
        c.due("would not on NIGHT 1", would.fits(0), 37);
        c.due("the least", would.sure(0, 0), 4);
        would.untell(0);
        would.seen(12, false);
        c.due("would not on NIGHT 12", would.fits(0), 38);
    }

    private void fits() {
        d.says(45, "FITS: how many (0 without MEN).");
        c.due("a new object", new NightLights().fits(0), 0);
        c.due("without MEN", Check.told("boy x at 0 calm 9;").fits(0), 0);
        NightLights x = Check.told(ONE);
        c.due("nothing is SEEN", x.fits(0), ALL);
        x.seen(1, true);
        x.seen(1, false);
        c.due("what can't be both", x.fits(0), 0);
        x.untell(0);
        c.due("one of both", x.fits(0), 37);
        d.says(Document.TERMS, "FITS: FEARS (0 .. 40) by which all that counts is so.");
        c.due("the greatest", x.sure(1, 0), 40);
        NightLights y = Check.told(ONE);
        c.due("the least", y.sure(0, 0), 0);
        c.due("the greatest", y.sure(1, 0), 40);
        NightLights gone = Check.told(ONE);
        Check.tell(gone, "");
        c.due("MEN before", gone.fits(0), 0);
    }

    private void sure() {
        d.says(46, "The least of FITS (what 0), the greatest (1)");
        NightLights x = Check.told(ONE);
        x.seen(1, true);
        x.seen(3, false);
        c.due("one alone", x.fits(0), 1);
        c.due("the least", x.sure(0, 0), 3);
        c.due("the greatest", x.sure(1, 0), 3);
        d.says(46, "NONE if none FITS, or for another what.");
        c.refuses(x, "sure(2, 0)", () -> x.sure(2, 0));
        for (int wild : Check.WILD) {
            c.refuses(x, "sure(" + wild + ", 0)", () -> x.sure(wild, 0));
        }
        x.seen(2, false);
        c.refuses(x, "none FITS", () -> x.sure(0, 0));
        c.refuses(x, "none FITS", () -> x.sure(1, 0));
        c.due("at another TIME some do", x.sure(1, -1), 40);
        NightLights none = new NightLights();
        c.refuses(none, "without MEN", () -> none.sure(0, 0));
        c.refuses(none, "without MEN", () -> none.sure(1, 0));
    }

    private void ask() {
        d.says(Document.TERMS, "ASK: the NIGHT (1 .. 12) of which to know it would leave the fewest of these at the most; of like ones the first.");
        NightLights x = Check.told(ONE);
        c.due("4 and 37, NIGHT 1 or 2", x.ask(0, 0), 1);
        c.due("37", x.ask(1, 0), 37);
        x.seen(1, true);
        c.due("3 and 1, NIGHT 3 or later", x.ask(0, 0), 3);
        c.due("3", x.ask(1, 0), 3);
        x.seen(3, true);
        c.due("none parts them: the first", x.ask(0, 0), 1);
        c.due("all three", x.ask(1, 0), 3);
        NightLights last = Check.told("man a at 0 fear 9 age 1 oil 11 lit;");
        last.seen(1, true);
        // 0 .. 3 all come to 0 by then: no NIGHT parts them.
        c.due("no NIGHT parts them", last.ask(0, 0), 1);
        c.due("no NIGHT parts them", last.ask(1, 0), 4);
        d.says(47, "ASK what 0: the NIGHT, 1: how many are left at the most");
        NightLights one = Check.told("man a at 0 fear 9 age 1;");
        one.seen(12, true);
        c.due("one is left", one.ask(1, 0), 1);
        c.due("the first", one.ask(0, 0), 1);
        d.says(47, "NONE if none FITS, or for another what.");
        c.refuses(one, "ask(2, 0)", () -> one.ask(2, 0));
        for (int wild : Check.WILD) {
            c.refuses(one, "ask(" + wild + ", 0)", () -> one.ask(wild, 0));
        }
        one.seen(12, false);
        c.refuses(one, "none FITS", () -> one.ask(0, 0));
        c.refuses(one, "none FITS", () -> one.ask(1, 0));
        c.due("at another TIME some do", one.ask(0, -1), 1);
        NightLights none = new NightLights();
        c.refuses(none, "without MEN", () -> none.ask(0, 0));
        c.refuses(none, "without MEN", () -> none.ask(1, 0));
    }

    private void about() {
        d.says(50, "What 0: MEN, 1: BOYS, 2: who is LIT, as bits, 3: the tank, 4: the night, 5: the SEED, 6: ACTS that can be undone, 7: redone, "
                + "8: what is SEEN, 9: the TIME, 10: bytes on the TAPE, 11: units, 12: numbers that lie there, 13: pipes in 100.");
        NightLights x = Check.told("man a at 0 fear 9 age 1 oil 2 lit;man b at 0 fear 9 age 1;man c at 0 fear 9 age 1 lit;boy x at 0 calm 9;"
                + "tank 30;pipes 45;draw 7;help calm-far+1;");
        x.later(8);
        x.light(1);
        x.night();
        x.night();
        x.pour(0, 4);
        x.pour(0, 5);
        x.undo();
        x.seen(3, true);
        x.seen(4, true);
        x.untell(0);
        x.sending(0);
        x.feed(0, 0, 0, 0, 0);
        x.end(17);
        int seed = 7;
        for (int i = 0; i < 6; i++) {
            seed = (seed * 137 + 71) % 1000;
        }
        int[] due = {3, 1, 7, 26, 2, seed, 4, 1, 2, 8, 17, 3, 3, 45};
        for (int what = 0; what < due.length; what++) {
            int want = due[what];
            int asked = what;
            c.leaves(x, "about(" + what + ")", () -> x.about(asked), want);
        }
        d.says(50, "NONE for another what.");
        c.refuses(x, "about(14)", () -> x.about(14));
        for (int wild : Check.WILD) {
            c.refuses(x, "about(" + wild + ")", () -> x.about(wild));
        }
        d.says(Document.TERMS, "The constants: `NONE = -1`: There is none.");
        c.due("NONE", NightLights.NONE, -1);
        NightLights none = new NightLights();
        c.refuses(none, "about(14)", () -> none.about(14));
        c.refuses(none, "about(-1)", () -> none.about(-1));
    }
}
