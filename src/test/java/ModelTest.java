import java.nio.charset.StandardCharsets;
import java.util.Random;

/** Long runs of calls, told by a fixed source of numbers, on NightLights and on Model at once. */
public final class ModelTest {
    private static final int RUNS = 1500;
    private static final int CALLS = 480;
    private static final int KINDS = 49;

    private final Random chance;
    private final NightLights real = new NightLights();
    private final Model model = new Model();
    private final Check check;
    private final int run;

    private ModelTest(int run, Check check) {
        this.run = run;
        this.check = check;
        chance = new Random(run * 7919L + 17);
    }

    public static void main(String[] args) {
        Check check = new Check();
        for (int run = 0; run < RUNS && check.wrong() < 20; run++) {
            new ModelTest(run, check).go();
            new ModelTest(run, check).readSoups();
        }
        check.finish();
    }

    private void go() {
        int calls = 0;
        while (calls < CALLS) {
            if (calls == 0 || chance.nextInt(90) == 0) {
                String text = text();
                calls += text.length() / 20 + 3;
                tell(text);
            }
            step();
            calls++;
        }
    }

    /** Texts that are hardly ever good: FAULTS alone are looked at. */
    private void readSoups() {
        for (int i = 0; i < 40; i++) {
            tell(chance.nextBoolean() ? soup() : "help " + soup());
        }
    }

    private String soup() {
        String[] bits = {"man", "a", "at", "1", "fear", "age", "oil", "lit", ";", "boy", "calm", "help", "tank", "pipes", "draw", "or",
            "and", "not", "far", "light", "night", "(", ")", "<", ">", "=", "+", "-", "*", "/", "%", "99", "1000", "12345", "abcdefghi",
            "B", "man b at 1 fear 2 age 3", "boy c at 4 calm 5", "calm-far", "(not fear)", "draw 9", "\t", "\n"};
        StringBuilder text = new StringBuilder();
        for (int n = upTo(12); n >= 0; n--) {
            text.append(bits[chance.nextInt(bits.length)]).append(chance.nextInt(4) == 0 ? "" : " ");
        }
        return text.toString();
    }

    private void tell(String text) {
        byte[] bytes = text.getBytes(StandardCharsets.ISO_8859_1);
        real.end(0);
        model.end(0);
        Check.tape(real, bytes);
        for (byte b : bytes) {
            model.tape.append((char) (b & 255));
        }
        check.part("run " + run + " of '" + text + "'");
        check.due("parish", real.parish(), model.parish());
        check.due("fault(0)", real.fault(0), model.fault(0));
        check.due("fault(1)", real.fault(1), model.fault(1));
    }

    private int upTo(int n) {
        return chance.nextInt(n + 1);
    }

    private String text() {
        StringBuilder lines = new StringBuilder();
        int men = upTo(6);
        int boys = upTo(4);
        int lane = chance.nextBoolean() ? 99 : 12;
        for (int i = 0; i < men; i++) {
            lines.append("man ").append((char) ('a' + i)).append(" at ").append(upTo(lane));
            lines.append(" fear ").append(upTo(chance.nextBoolean() ? 40 : 9)).append(" age ").append(upTo(99));
            lines.append(chance.nextBoolean() ? " oil " + upTo(20) : "").append(chance.nextBoolean() ? " lit;" : ";");
        }
        for (int i = 0; i < boys; i++) {
            lines.append("boy ").append((char) ('a' + i)).append(" at ").append(upTo(lane));
            lines.append(" calm ").append(upTo(30)).append(";\n");
        }
        lines.append(chance.nextBoolean() ? "tank " + upTo(99) + ";" : "");
        lines.append(chance.nextBoolean() ? "pipes " + upTo(100) + ";" : "");
        lines.append(chance.nextBoolean() ? "draw " + upTo(999) + ";" : "");
        if (chance.nextInt(3) > 0) {
            lines.append("help ").append(e(0)).append(";");
        }
        return chance.nextInt(4) == 0 ? spoilt(lines) : lines.toString();
    }

    private String spoilt(StringBuilder lines) {
        String[] bits = {"man", "boy ", "lit", "oil 3", "12345", "7x", "abcdefghi", "!", ";", "(", ")", " not ", "+", " or ", "99", "100",
            "help", "tank 5;", "draw", "pipes 7;", "\n", "\u00e9", "a", "fear", "0"};
        int at = upTo(lines.length());
        switch (chance.nextInt(3)) {
            case 0: lines.insert(at, bits[chance.nextInt(bits.length)]); break;
            case 1: lines.delete(at, Math.min(lines.length(), at + 1 + upTo(6))); break;
            default: lines.append(lines.substring(at)); break;
        }
        if (lines.length() > 1600) {
            lines.setLength(1600);
        }
        return lines.toString();
    }

    private String e(int depth) {
        String[] signs = {"+", "-", "*", "/", "%", "<", ">", "=", " and ", " or "};
        StringBuilder text = new StringBuilder(one(depth));
        for (int more = upTo(depth == 0 ? 6 : 3); more > 0; more--) {
            String sign = signs[chance.nextInt(chance.nextInt(3) == 0 ? 10 : 5)];
            text.append(sign).append(sign.startsWith(" ") ? one(depth) : unit(depth));
        }
        return text.toString();
    }

    private String one(int depth) {
        return chance.nextInt(8) == 0 ? "not " + one(depth + 1) : unit(depth);
    }

    private String unit(int depth) {
        String[] words = {"fear", "age", "calm", "far", "light", "night", "calm", "calm"};
        if (chance.nextInt(6) == 0 && depth < 9) {
            return "(" + e(depth + 1) + ")";
        }
        return chance.nextInt(3) == 0 ? upTo(chance.nextBoolean() ? 9 : 9999) + " " : words[chance.nextInt(words.length)];
    }

    /** Mostly in the range, now and then beside or far from it. */
    private int near(int low, int high) {
        int sort = chance.nextInt(40);
        if (sort == 0) {
            return chance.nextInt();
        }
        return sort == 1 ? low - 1 : sort == 2 ? high + 1 : low + chance.nextInt(high - low + 1);
    }

    private int aMan() {
        return near(0, Math.max(0, model.men() - 1));
    }

    private int aBoy() {
        return near(0, Math.max(0, model.boys() - 1));
    }

    private void due(String call, long got, long want) {
        check.due(call, got, want);
    }

    private void step() {
        int kind = chance.nextInt(KINDS);
        if (kind < 16) {
            acts(kind);
        } else if (kind < 32) {
            looks(kind);
        } else {
            more(kind);
        }
    }

    private void acts(int kind) {
        int man = aMan();
        int boy = aBoy();
        int n = near(1, 6);
        int box = near(0, 2);
        switch (kind) {
            case 0: due("night()", real.night(), model.night()); break;
            case 1: case 2: due("send(" + boy + ", " + man + ")", real.send(boy, man), model.send(boy, man)); break;
            case 3: due("recall(" + boy + ")", real.recall(boy), model.recall(boy)); break;
            case 4: due("light(" + man + ")", real.light(man), model.turn(man, true)); break;
            case 5: due("snuff(" + man + ")", real.snuff(man), model.turn(man, false)); break;
            case 6: due("pour(" + man + ", " + n + ")", real.pour(man, n), model.pour(man, n)); break;
            case 7: check.due("undo()", real.undo(), model.undo()); break;
            case 8: check.due("redo()", real.redo(), model.redo()); break;
            case 9: due("image(" + box + ")", real.image(box), model.image(box)); break;
            case 10:
                if (chance.nextInt(4) == 0) {
                    due("back(" + box + ")", real.back(box), model.back(box));
                }
                break;
            case 11: {
                int night = near(1, 12);
                boolean is = chance.nextInt(3) == 0;
                due("seen(" + night + ", " + is + ")", real.seen(night, is), model.seen(night, is));
                break;
            }
            case 12: {
                int which = near(0, Math.max(0, model.seen.size() - 1));
                check.due("untell(" + which + ")", real.untell(which), model.untell(which));
                break;
            }
            case 13: {
                int by = chance.nextBoolean() ? near(0, 3) : near(0, 1000);
                due("later(" + by + ")", real.later(by), model.later(by));
                break;
            }
            case 14: {
                int[] five = {chance.nextInt(), chance.nextInt(), 0, -1, chance.nextInt()};
                due("feed", real.feed(five[0], five[1], five[2], five[3], five[4]), model.feed(five));
                break;
            }
            default: {
                int to = near(0, model.tape.length());
                due("end(" + to + ")", real.end(to), model.end(to));
            }
        }
    }

    private void looks(int kind) {
        int man = aMan();
        int boy = aBoy();
        int what = near(0, 1);
        int n = near(0, 60);
        switch (kind) {
            case 16: for (int w = -1; w <= 7; w++) due("man(" + man + ", " + w + ")", real.man(man, w), model.man(man, w)); break;
            case 17: for (int w = -1; w <= 3; w++) due("boy(" + boy + ", " + w + ")", real.boy(boy, w), model.boy(boy, w)); break;
            case 18: due("help(" + boy + ", " + man + ")", real.help(boy, man), model.help(boy, man)); break;
            case 19: due("sleepers()", real.sleepers(), model.sleepers(model.now)); break;
            case 20: due("will(" + man + ", " + n + ", " + what + ")", real.will(man, n, what), model.will(man, n, what)); break;
            case 21: due("asleep(" + n + ")", real.asleep(n), model.asleep(n)); break;
            case 22: due("calm()", real.calm(), model.calm()); break;
            case 23: due("sending(" + what + ")", real.sending(what), model.sending(what)); lying("sending"); break;
            case 24: due("round(" + boy + ")", real.round(boy), model.round(boy)); lying("round"); break;
            case 25: {
                int steps = chance.nextInt(4) > 0 ? near(0, 60) : near(0, 999);
                due("twelve(" + boy + ", " + steps + ", " + what + ")", real.twelve(boy, steps, what), model.twelve(boy, steps, what));
                break;
            }
            case 26: due("stable()", real.stable(), model.stable()); lying("stable"); break;
            case 27: for (int w = -1; w <= 3; w++) due("jealous(" + w + ")", real.jealous(w), model.jealous(w)); break;
            case 28: {
                int nights = near(0, 8);
                due("burning(" + man + ", " + nights + ", " + what + ")", real.burning(man, nights, what), model.burning(man, nights, what));
                break;
            }
            case 29: due("need(" + n + ")", real.need(n), model.need(n)); break;
            case 30: due("least(" + boy + ", " + man + ")", real.least(boy, man), model.least(boy, man)); break;
            default: {
                int other = aBoy();
                due("rivals(" + boy + ", " + other + ")", real.rivals(boy, other), model.rivals(boy, other));
                lying("rivals");
            }
        }
    }

    private void lying(String call) {
        for (int i = -1; i <= 6; i++) {
            due(call + ": lies(" + i + ")", real.lies(i), model.lies(i));
        }
    }

    private void more(int kind) {
        int boy = aBoy();
        int what = near(0, 1);
        int k = chance.nextInt(3) == 0 ? near(0, model.time + 1) : model.time - upTo(3);
        switch (kind) {
            case 32: due("home(" + boy + ", " + what + ")", real.home(boy, what), model.home(boy, what)); break;
            case 33: for (int w = -1; w <= 3; w++) due("trade(" + w + ")", real.trade(w), model.trade(w)); break;
            case 34: due("idle()", real.idle(), model.idle()); break;
            case 35: due("dark()", real.dark(), model.dark()); break;
            case 36: due("glow()", real.glow(), model.glow()); break;
            case 37: due("blest()", real.blest(), model.blest()); break;
            case 38: due("timid()", real.timid(), model.timid()); break;
            case 39: due("nearest(" + boy + ")", real.nearest(boy), model.nearest(boy)); break;
            case 40: {
                int a = near(0, 99);
                int b = near(0, 99);
                due("between(" + a + ", " + b + ")", real.between(a, b), model.between(a, b));
                break;
            }
            case 41: {
                int n = near(0, 99);
                due("law(" + n + ")", real.law(n), model.law(n));
                break;
            }
            case 42: {
                int n = near(0, 4);
                due("odds(" + n + ", " + what + ")", real.odds(n, what), model.odds(n, what));
                break;
            }
            case 43: lying("now"); break;
            case 44: due("fits(" + k + ")", real.fits(k), model.fits(k)); break;
            case 45: due("sure(" + what + ", " + k + ")", real.sure(what, k), model.sure(what, k)); break;
            case 46: due("ask(" + what + ", " + k + ")", real.ask(what, k), model.ask(what, k)); break;
            case 47: for (int w = -1; w <= 14; w++) due("about(" + w + ")", real.about(w), model.about(w)); break;
            default: for (int w = -1; w <= 2; w++) due("fault(" + w + ")", real.fault(w), model.fault(w)); break;
        }
    }
}
