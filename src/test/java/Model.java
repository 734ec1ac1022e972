import java.util.ArrayList;
import java.util.Arrays;
import java.util.HashMap;
import java.util.List;
import java.util.Map;
import java.util.function.ToIntFunction;

/**
 * The document said once more, plainly and dearly, with the Java library: every set, order and
 * pairing is tried. ModelTest holds NightLights against it.
 */
final class Model {
    static final int NONE = -1;
    static final List<String> OWN = Arrays.asList("man", "at", "fear", "age", "oil", "lit", "boy", "calm",
            "help", "tank", "pipes", "draw", "or", "and", "not", "far", "light", "night");

    /** What help knows. */
    record Known(int fear, int age, int calm, int far, int light, int night) { }

    record Man(int place, int fear, int age, int oil, boolean lit) { }

    record Boy(int place, int calm) { }

    record Seen(int night, boolean is, int toldAt, int[] untoldAt) { }

    record Token(String text, int place) { }

    static final class Fault extends RuntimeException {
        private static final long serialVersionUID = 1L;
        final int number;
        final int place;

        Fault(int number, int place) {
            this.number = number;
            this.place = place;
        }
    }

    static final class Told {
        final List<Man> men = new ArrayList<>();
        final List<Boy> boys = new ArrayList<>();
        final Map<String, Integer> numbers = new HashMap<>();
        ToIntFunction<Known> help = k -> k.calm - k.far;
        int units;

        int number(String word) {
            return numbers.getOrDefault(word, 0);
        }
    }

    static final class State implements Cloneable {
        int[] fear;
        int[] oil;
        boolean[] lit;
        int[] boy;
        int tank;
        int night;
        int seed;

        State of() {
            State s = new State();
            s.fear = fear.clone();
            s.oil = oil.clone();
            s.lit = lit.clone();
            s.boy = boy.clone();
            s.tank = tank;
            s.night = night;
            s.seed = seed;
            return s;
        }
    }

    /** Reads a text by its TOKENS, all of which are cut before the first is looked at. */
    static final class Grammar {
        final List<Token> tokens = new ArrayList<>();
        final Told told = new Told();
        final List<String> menNames = new ArrayList<>();
        final List<String> boyNames = new ArrayList<>();
        int at;

        Grammar(String text) {
            int i = 0;
            while (i < text.length()) {
                char c = text.charAt(i);
                int to = i + 1;
                if (c == ' ' || c == '\n') {
                    i = to;
                    continue;
                }
                if (Character.isLowerCase(c) && c < 128) {
                    while (to < text.length() && text.charAt(to) >= 'a' && text.charAt(to) <= 'z') {
                        to++;
                    }
                } else if (c >= '0' && c <= '9') {
                    while (to < text.length() && text.charAt(to) >= '0' && text.charAt(to) <= '9') {
                        to++;
                    }
                }
                String token = text.substring(i, to);
                boolean letterBehind = to < text.length() && text.substring(to, to + 1).matches("[a-z]");
                boolean good = token.matches("[a-z]{1,8}") || token.matches("[0-9]{1,4}") && !letterBehind
                        || token.matches("[;()<>=+\\-*/%]");
                tokens.add(new Token(good ? token : "?", i));
                i = to;
            }
            tokens.add(new Token("", text.length()));
        }

        String now() {
            return tokens.get(at).text;
        }

        Fault cant() {
            return new Fault(now().equals("?") ? 1 : 2, tokens.get(at).place);
        }

        void take(String text) {
            if (!now().equals(text)) {
                throw cant();
            }
            at++;
        }

        int number(int most) {
            if (!now().matches("[0-9]+")) {
                throw cant();
            }
            int n = Integer.parseInt(now());
            if (n > most) {
                throw new Fault(4, tokens.get(at).place);
            }
            at++;
            return n;
        }

        void name(List<String> names) {
            if (!now().matches("[a-z]+") || OWN.contains(now())) {
                throw cant();
            }
            if (names.contains(now())) {
                throw new Fault(3, tokens.get(at).place);
            }
            names.add(now());
            at++;
        }

        Told parish() {
            boolean helped = false;
            while (!now().equals("")) {
                String word = now();
                switch (word) {
                    case "man" -> man();
                    case "boy" -> boy();
                    case "help" -> {
                        if (helped) {
                            throw cant();
                        }
                        helped = true;
                        at++;
                        told.help = e(0);
                    }
                    case "tank", "pipes", "draw" -> {
                        if (told.numbers.containsKey(word)) {
                            throw cant();
                        }
                        at++;
                        told.numbers.put(word, number(word.equals("tank") ? 99 : word.equals("pipes") ? 100 : 999));
                    }
                    default -> throw cant();
                }
                take(";");
            }
            return told;
        }

        void man() {
            if (told.men.size() == 6) {
                throw cant();
            }
            at++;
            name(menNames);
            take("at");
            int place = number(99);
            take("fear");
            int fear = number(40);
            take("age");
            int age = number(99);
            int oil = 0;
            if (now().equals("oil")) {
                at++;
                oil = number(20);
            }
            boolean lit = now().equals("lit");
            at += lit ? 1 : 0;
            told.men.add(new Man(place, fear, age, oil, lit));
        }

        void boy() {
            if (told.boys.size() == 4) {
                throw cant();
            }
            at++;
            name(boyNames);
            take("at");
            int place = number(99);
            take("calm");
            told.boys.add(new Boy(place, number(30)));
        }

        ToIntFunction<Known> e(int within) {
            ToIntFunction<Known> left = both(within);
            while (now().equals("or")) {
                at++;
                ToIntFunction<Known> a = left;
                ToIntFunction<Known> b = both(within);
                left = k -> (a.applyAsInt(k) != 0 | b.applyAsInt(k) != 0) ? 1 : 0;
            }
            return left;
        }

        ToIntFunction<Known> both(int within) {
            ToIntFunction<Known> left = one(within);
            while (now().equals("and")) {
                at++;
                ToIntFunction<Known> a = left;
                ToIntFunction<Known> b = one(within);
                left = k -> (a.applyAsInt(k) != 0 & b.applyAsInt(k) != 0) ? 1 : 0;
            }
            return left;
        }

        ToIntFunction<Known> one(int within) {
            if (now().equals("not")) {
                if (within > 6) {
                    throw cant();
                }
                at++;
                ToIntFunction<Known> a = one(within + 1);
                return k -> a.applyAsInt(k) == 0 ? 1 : 0;
            }
            ToIntFunction<Known> a = sum(within);
            String sign = now();
            if (!sign.matches("[<>=]")) {
                return a;
            }
            at++;
            ToIntFunction<Known> b = sum(within);
            return k -> {
                int order = Integer.compare(a.applyAsInt(k), b.applyAsInt(k));
                return (sign.equals("<") ? order < 0 : sign.equals(">") ? order > 0 : order == 0) ? 1 : 0;
            };
        }

        ToIntFunction<Known> sum(int within) {
            ToIntFunction<Known> left = term(within);
            while (now().matches("[+-]")) {
                boolean plus = now().equals("+");
                at++;
                ToIntFunction<Known> a = left;
                ToIntFunction<Known> b = term(within);
                left = k -> (int) (a.applyAsInt(k) + (plus ? 1L : -1L) * b.applyAsInt(k));
            }
            return left;
        }

        ToIntFunction<Known> term(int within) {
            ToIntFunction<Known> left = unit(within);
            while (now().matches("[*/%]")) {
                String sign = now();
                at++;
                ToIntFunction<Known> a = left;
                ToIntFunction<Known> b = unit(within);
                left = k -> {
                    long x = a.applyAsInt(k);
                    long y = b.applyAsInt(k);
                    return (int) (sign.equals("*") ? x * y : y == 0 ? 0 : sign.equals("/") ? x / y : x % y);
                };
            }
            return left;
        }

        ToIntFunction<Known> unit(int within) {
            String text = now();
            boolean opens = text.equals("(");
            if (!opens && !text.matches("[0-9]+|fear|age|calm|far|light|night")
                    || told.units == 30 || opens && within > 6) {
                throw cant();
            }
            told.units++;
            at++;
            switch (text) {
                case "(": {
                    ToIntFunction<Known> inner = e(within + 1);
                    take(")");
                    return inner;
                }
                case "fear": return Known::fear;
                case "age": return Known::age;
                case "calm": return Known::calm;
                case "far": return Known::far;
                case "light": return Known::light;
                case "night": return Known::night;
                default: {
                    int n = Integer.parseInt(text);
                    return k -> n;
                }
            }
        }
    }

    Told told = new Told();
    State now;
    final List<State> past = new ArrayList<>();
    final List<State> future = new ArrayList<>();
    final State[] boxes = new State[3];
    final List<Seen> seen = new ArrayList<>();
    List<Integer> lies = new ArrayList<>();
    StringBuilder tape = new StringBuilder();
    int time;
    int fault;
    int faultPlace = NONE;

    Model() {
        begin();
    }

    private void begin() {
        now = asTold();
        past.clear();
        future.clear();
        seen.clear();
        lies.clear();
        Arrays.fill(boxes, null);
    }

    private State asTold() {
        State s = new State();
        int n = told.men.size();
        s.fear = told.men.stream().mapToInt(Man::fear).toArray();
        s.oil = told.men.stream().mapToInt(Man::oil).toArray();
        s.lit = new boolean[n];
        s.boy = new int[n];
        for (int i = 0; i < n; i++) {
            s.lit[i] = told.men.get(i).lit;
            s.boy[i] = NONE;
        }
        s.tank = told.number("tank");
        s.seed = told.number("draw");
        return s;
    }

    int men() {
        return told.men.size();
    }

    int boys() {
        return told.boys.size();
    }

    boolean isMan(int man) {
        return man >= 0 && man < men();
    }

    boolean isBoy(int boy) {
        return boy >= 0 && boy < boys();
    }

    static boolean in(int n, int low, int high) {
        return n >= low && n <= high;
    }

    int feed(int... five) {
        if (tape.length() > 1580) {
            return NONE;
        }
        for (int n : five) {
            for (int i = 3; i >= 0; i--) {
                tape.append((char) (n >>> 8 * i & 255));
            }
        }
        return tape.length();
    }

    int end(int n) {
        if (!in(n, 0, tape.length())) {
            return NONE;
        }
        tape.setLength(n);
        return n;
    }

    int parish() {
        try {
            told = new Grammar(tape.toString()).parish();
        } catch (Fault f) {
            fault = f.number;
            faultPlace = f.place;
            return NONE;
        }
        fault = 0;
        faultPlace = NONE;
        tape.setLength(0);
        begin();
        return men();
    }

    int fault(int what) {
        return what == 0 ? fault : what == 1 ? faultPlace : NONE;
    }

    int lightOf(State s, int man) {
        return s.lit[man] && s.oil[man] > 0 ? 1 : 0;
    }

    int helpBy(State s, Boy boy, int man) {
        return helpBy(s, boy, man, s.fear[man], lightOf(s, man));
    }

    int helpBy(State s, Boy boy, int man, int fear, int light) {
        Man m = told.men.get(man);
        int comes = told.help.applyAsInt(new Known(fear, m.age, boy.calm, Math.abs(boy.place - m.place), light, s.night));
        return comes < 0 ? 0 : comes > 99 ? 99 : comes;
    }

    int ease(State s, int man, int fear, int light) {
        return (s.boy[man] < 0 ? 0 : helpBy(s, told.boys.get(s.boy[man]), man, fear, light)) + (light == 1 ? 3 : 0);
    }

    boolean sleeps(State s, int man) {
        return ease(s, man, s.fear[man], lightOf(s, man)) >= s.fear[man];
    }

    int sleepers(State s) {
        int bits = 0;
        for (int man = 0; man < men(); man++) {
            bits += sleeps(s, man) ? 1 << man : 0;
        }
        return bits;
    }

    State behind(State from, boolean pipes) {
        State s = from.of();
        for (int man = 0; man < men(); man++) {
            s.fear[man] = sleeps(from, man) ? Math.max(0, from.fear[man] - 1) : Math.min(99, from.fear[man] + 1);
            s.oil[man] -= lightOf(from, man);
            if (pipes) {
                s.seed = (s.seed * 137 + 71) % 1000;
                if (s.seed % 100 < told.number("pipes")) {
                    s.fear[man] = Math.min(99, s.fear[man] + 2);
                }
            }
        }
        s.night++;
        return s;
    }

    State behind(int n, boolean pipes) {
        State s = now;
        for (int i = 0; i < n; i++) {
            s = behind(s, pipes);
        }
        return s;
    }

    int manOf(int boy) {
        for (int man = 0; man < men(); man++) {
            if (now.boy[man] == boy) {
                return man;
            }
        }
        return NONE;
    }

    int man(int man, int what) {
        if (!isMan(man) || !in(what, 0, 6)) {
            return -2;
        }
        Man m = told.men.get(man);
        int[] all = {m.place, now.fear[man], m.age, now.oil[man], now.lit[man] ? 1 : 0, now.boy[man],
            ease(now, man, now.fear[man], lightOf(now, man))};
        return all[what];
    }

    int boy(int boy, int what) {
        if (!isBoy(boy) || !in(what, 0, 2)) {
            return -2;
        }
        int[] all = {told.boys.get(boy).place, told.boys.get(boy).calm, manOf(boy)};
        return all[what];
    }

    int help(int boy, int man) {
        return isBoy(boy) && isMan(man) ? helpBy(now, told.boys.get(boy), man) : NONE;
    }

    private void act(State next) {
        past.add(now);
        if (past.size() > 40) {
            past.remove(0);
        }
        future.clear();
        now = next;
    }

    int night() {
        if (now.night >= 999) {
            return NONE;
        }
        int bits = sleepers(now);
        act(behind(now, true));
        return bits;
    }

    int send(int boy, int man) {
        if (!isBoy(boy) || !isMan(man) || manOf(boy) >= 0 || now.boy[man] >= 0) {
            return NONE;
        }
        State s = now.of();
        s.boy[man] = boy;
        act(s);
        return man(man, 6);
    }

    int recall(int boy) {
        if (!isBoy(boy) || manOf(boy) < 0) {
            return NONE;
        }
        int man = manOf(boy);
        State s = now.of();
        s.boy[man] = NONE;
        act(s);
        return man;
    }

    int turn(int man, boolean on) {
        if (!isMan(man) || now.lit[man] == on) {
            return NONE;
        }
        State s = now.of();
        s.lit[man] = on;
        act(s);
        return s.oil[man];
    }

    int pour(int man, int much) {
        if (!isMan(man) || !in(much, 1, 20) || much > now.tank || now.oil[man] + much > 20) {
            return NONE;
        }
        State s = now.of();
        s.tank -= much;
        s.oil[man] += much;
        act(s);
        return s.oil[man];
    }

    boolean undo() {
        if (past.isEmpty()) {
            return false;
        }
        future.add(now);
        now = past.remove(past.size() - 1);
        return true;
    }

    boolean redo() {
        if (future.isEmpty()) {
            return false;
        }
        past.add(now);
        now = future.remove(future.size() - 1);
        return true;
    }

    int will(int man, int n, int what) {
        return isMan(man) && in(n, 0, 60) && in(what, 0, 1) ? behind(n, what == 1).fear[man] : NONE;
    }

    int asleep(int n) {
        return in(n, 1, 60) ? sleepers(behind(n - 1, false)) : NONE;
    }

    int calm() {
        for (int n = 0; n <= 60; n++) {
            if (sleepers(behind(n, false)) == (1 << men()) - 1) {
                return n;
            }
        }
        return NONE;
    }

    /** Every pairing, in the document's order: MAN by MAN the least BOY, none behind all. */
    private List<int[]> pairings() {
        List<int[]> all = new ArrayList<>();
        int kinds = boys() + 1;
        int n = (int) Math.round(Math.pow(kinds, men()));
        for (int code = 0; code < n; code++) {
            int[] row = new int[men()];
            int rest = code;
            int used = 0;
            boolean good = true;
            for (int man = men() - 1; man >= 0; man--) {
                int boy = rest % kinds;
                rest /= kinds;
                row[man] = boy == boys() ? NONE : boy;
                good &= row[man] < 0 || (used >> row[man] & 1) == 0;
                used |= row[man] < 0 ? 0 : 1 << row[man];
            }
            if (good) {
                all.add(row);
            }
        }
        return all;
    }

    int sending(int what) {
        int[] best = null;
        int bestCount = -1;
        int bestHelp = -1;
        for (int[] row : pairings()) {
            State s = now.of();
            s.boy = row;
            int count = Integer.bitCount(sleepers(s));
            int sum = 0;
            for (int man = 0; man < men(); man++) {
                sum += row[man] < 0 ? 0 : help(row[man], man);
            }
            if (count > bestCount || count == bestCount && sum > bestHelp) {
                best = row;
                bestCount = count;
                bestHelp = sum;
            }
        }
        lay(best);
        return what == 0 ? bestCount : what == 1 ? bestHelp : NONE;
    }

    private void lay(int... numbers) {
        lies = new ArrayList<>();
        for (int n : numbers) {
            lies.add(n);
        }
    }

    private void orders(List<Integer> before, List<List<Integer>> all) {
        if (before.size() == men()) {
            all.add(new ArrayList<>(before));
        }
        for (int man = 0; man < men(); man++) {
            if (!before.contains(man)) {
                before.add(man);
                orders(before, all);
                before.remove(before.size() - 1);
            }
        }
    }

    private int way(int from, List<Integer> men) {
        int sum = 0;
        int at = from;
        for (int man : men) {
            sum += Math.abs(told.men.get(man).place - at);
            at = told.men.get(man).place;
        }
        return sum;
    }

    int round(int boy) {
        lay();
        if (!isBoy(boy)) {
            return NONE;
        }
        List<List<Integer>> all = new ArrayList<>();
        orders(new ArrayList<>(), all);
        List<Integer> best = all.get(0);
        int from = told.boys.get(boy).place;
        for (List<Integer> order : all) {
            if (way(from, order) < way(from, best)) {
                best = order;
            }
        }
        lies = best;
        return way(from, best);
    }

    int twelve(int boy, int steps, int what) {
        if (!isBoy(boy) || !in(steps, 0, 999) || !in(what, 0, 1)) {
            return NONE;
        }
        List<List<Integer>> all = new ArrayList<>();
        orders(new ArrayList<>(), all);
        int best = 0;
        for (List<Integer> order : all) {
            for (int n = 1; n <= men(); n++) {
                List<Integer> first = order.subList(0, n);
                int set = 0;
                for (int man : first) {
                    set |= 1 << man;
                }
                int more = n - Integer.bitCount(best);
                if (way(told.boys.get(boy).place, first) <= steps && (more > 0 || more == 0 && set < best)) {
                    best = set;
                }
            }
        }
        return what == 0 ? Integer.bitCount(best) : best;
    }

    private int far(int boy, int man) {
        return Math.abs(told.boys.get(boy).place - told.men.get(man).place);
    }

    /** How dear a BOY is to a MAN: the more, the dearer; below 0 if he would have none of him. */
    private int dear(int man, int boy) {
        return boy < 0 ? 0 : help(boy, man) == 0 ? -1 : help(boy, man) * 10 + 9 - boy;
    }

    private int dearTo(int boy, int man) {
        return man < 0 ? -1 : (100 - far(boy, man)) * 10 + 9 - man;
    }

    private boolean isStable(int[] row) {
        int[] manOf = new int[boys()];
        Arrays.fill(manOf, NONE);
        for (int man = 0; man < men(); man++) {
            if (row[man] >= 0) {
                manOf[row[man]] = man;
            }
        }
        for (int man = 0; man < men(); man++) {
            if (dear(man, row[man]) < 0) {
                return false;
            }
            for (int boy = 0; boy < boys(); boy++) {
                if (dear(man, boy) > dear(man, row[man]) && dearTo(boy, man) > dearTo(boy, manOf[boy])) {
                    return false;
                }
            }
        }
        return true;
    }

    /** Asking MEN come to that pairing of those none would leave which is best for each MAN. */
    int stable() {
        int[] best = null;
        for (int[] row : pairings()) {
            if (isStable(row)) {
                if (best == null) {
                    best = row.clone();
                }
                for (int man = 0; man < men(); man++) {
                    if (dear(man, row[man]) > dear(man, best[man])) {
                        best[man] = row[man];
                    }
                }
            }
        }
        lay(best);
        return (int) Arrays.stream(best).filter(b -> b >= 0).count();
    }

    int jealous(int what) {
        List<int[]> all = new ArrayList<>();
        for (int man = 0; man < men(); man++) {
            for (int boy = 0; boy < boys(); boy++) {
                int his = now.boy[man] < 0 ? 0 : help(now.boy[man], man);
                boolean he = help(boy, man) > his;
                boolean this1 = manOf(boy) < 0 || far(boy, man) < far(boy, manOf(boy));
                if (now.boy[man] != boy && he && this1) {
                    all.add(new int[] {man, boy});
                }
            }
        }
        return what == 0 ? all.size() : all.isEmpty() || !in(what, 1, 2) ? NONE : all.get(0)[what - 1];
    }

    int burning(int man, int n, int what) {
        if (!isMan(man) || !in(n, 0, 8) || !in(what, 0, 1)) {
            return NONE;
        }
        long best = Long.MIN_VALUE;
        int bestCount = 0;
        int bestSet = 0;
        for (int set = 0; set < 1 << n; set++) {
            if (Integer.bitCount(set) > now.oil[man]) {
                continue;
            }
            State s = now.of();
            int count = 0;
            for (int i = 0; i < n; i++) {
                s.lit[man] = (set >> i & 1) == 1;
                count += sleeps(s, man) ? 1 : 0;
                s = behind(s, false);
            }
            long rank = count * 10000L - Integer.bitCount(set) * 1000L - set;
            if (rank > best) {
                best = rank;
                bestCount = count;
                bestSet = set;
            }
        }
        return what == 0 ? bestCount : bestSet;
    }

    int need(int n) {
        if (!in(n, 0, 60)) {
            return NONE;
        }
        int sum = 0;
        for (boolean lit : now.lit) {
            sum += lit ? n : 0;
        }
        return sum;
    }

    int least(int boy, int man) {
        for (int calm = 0; isBoy(boy) && isMan(man) && calm <= 99; calm++) {
            int ease = helpBy(now, new Boy(told.boys.get(boy).place, calm), man) + 3 * lightOf(now, man);
            if (ease >= now.fear[man]) {
                return calm;
            }
        }
        return NONE;
    }

    int rivals(int boy, int other) {
        lay();
        List<Integer> free = new ArrayList<>();
        for (int man = 0; man < men(); man++) {
            if (now.boy[man] < 0) {
                free.add(man);
            }
        }
        if (boy == other || !isBoy(boy) || !isBoy(other) || manOf(boy) >= 0 || manOf(other) >= 0 || free.isEmpty()) {
            return NONE;
        }
        boolean firstHelps = told.boys.get(boy).calm >= told.boys.get(other).calm;
        int rests = 0;
        for (int a : free) {
            for (int b : free) {
                int ha = a == b && !firstHelps ? 0 : help(boy, a);
                int hb = a == b && firstHelps ? 0 : help(other, b);
                boolean rest = true;
                for (int c : free) {
                    rest &= (c == b && !firstHelps ? 0 : help(boy, c)) <= ha;
                    rest &= (c == a && firstHelps ? 0 : help(other, c)) <= hb;
                }
                if (rest && rests++ == 0) {
                    lay(a, b);
                }
            }
        }
        return rests;
    }

    int home(int boy, int what) {
        if (!isBoy(boy) || !in(what, 0, 1)) {
            return NONE;
        }
        int best = -1;
        int bestPlace = 0;
        for (int place = 99; place >= 0; place--) {
            int sum = 0;
            for (int man = 0; man < men(); man++) {
                sum += helpBy(now, new Boy(place, told.boys.get(boy).calm), man);
            }
            if (sum >= best) {
                best = sum;
                bestPlace = place;
            }
        }
        return what == 0 ? bestPlace : best;
    }

    int trade(int what) {
        int[] best = {NONE, NONE, Integer.bitCount(sleepers(now))};
        for (int a = 0; a < boys(); a++) {
            for (int b = a + 1; b < boys(); b++) {
                if (manOf(a) >= 0 && manOf(b) >= 0) {
                    State s = now.of();
                    s.boy[manOf(a)] = b;
                    s.boy[manOf(b)] = a;
                    int count = Integer.bitCount(sleepers(s));
                    if (count > best[2]) {
                        best = new int[] {a, b, count};
                    }
                }
            }
        }
        return best[0] < 0 || !in(what, 0, 2) ? NONE : best[what];
    }

    interface Is {
        boolean of(int i);
    }

    private int set(int n, Is is) {
        int bits = 0;
        for (int i = 0; i < n; i++) {
            bits |= is.of(i) ? 1 << i : 0;
        }
        return bits;
    }

    int idle() {
        return set(boys(), b -> manOf(b) < 0);
    }

    int dark() {
        return set(men(), m -> now.lit[m] && now.oil[m] == 0);
    }

    int glow() {
        return set(men(), m -> !sleeps(now, m) && ease(now, m, now.fear[m], 1) >= now.fear[m]);
    }

    private int first(int n, ToIntFunction<Integer> rank) {
        int best = NONE;
        for (int i = 0; i < n; i++) {
            if (rank.applyAsInt(i) > (best < 0 ? -1000 : rank.applyAsInt(best))) {
                best = i;
            }
        }
        return best;
    }

    int blest() {
        return first(men(), m -> now.boy[m] < 0 ? -1000 : help(now.boy[m], m));
    }

    int timid() {
        return first(men(), m -> now.fear[m]);
    }

    int nearest(int boy) {
        return isBoy(boy) ? first(men(), m -> -far(boy, m)) : NONE;
    }

    int between(int a, int b) {
        if (!in(a, 0, 99) || !in(b, 0, 99)) {
            return NONE;
        }
        return set(men(), m -> in(told.men.get(m).place, a, b) || in(told.men.get(m).place, b, a));
    }

    int law(int n) {
        return in(n, 0, 99) ? Integer.bitCount(set(men(), m -> ease(now, m, n, lightOf(now, m)) >= n)) : NONE;
    }

    int odds(int n, int part) {
        if (!in(n, 0, 4) || !in(part, 0, 1)) {
            return NONE;
        }
        java.math.BigInteger up = java.math.BigInteger.valueOf(100 - told.number("pipes")).pow(n);
        java.math.BigInteger low = java.math.BigInteger.valueOf(100).pow(n);
        return (part == 0 ? up : low).divide(up.gcd(low)).intValueExact();
    }

    int lies(int i) {
        return in(i, 0, lies.size() - 1) ? lies.get(i) : -2;
    }

    int seen(int night, boolean is) {
        if (!in(night, 1, 12) || seen.size() == 30 || men() == 0) {
            return NONE;
        }
        seen.add(new Seen(night, is, time, new int[] {Integer.MAX_VALUE}));
        return seen.size() - 1;
    }

    boolean untell(int which) {
        if (!in(which, 0, seen.size() - 1) || seen.get(which).untoldAt[0] != Integer.MAX_VALUE) {
            return false;
        }
        seen.get(which).untoldAt[0] = time;
        return true;
    }

    int later(int by) {
        if (!in(by, 0, 1000) || time + by > 100000) {
            return NONE;
        }
        time += by;
        return time;
    }

    private boolean wouldSleep(int fear, int night) {
        State s = asTold();
        s.fear[men() - 1] = fear;
        for (int i = 1; i < night; i++) {
            s = behind(s, false);
        }
        return sleeps(s, men() - 1);
    }

    private List<Integer> fitting(int k) {
        List<Integer> all = new ArrayList<>();
        for (int fear = 0; men() > 0 && fear <= 40; fear++) {
            boolean so = true;
            for (Seen s : seen) {
                boolean untold = s.untoldAt[0] != Integer.MAX_VALUE && s.untoldAt[0] <= k;
                if (s.toldAt <= k && !untold) {
                    so &= wouldSleep(fear, s.night) == s.is;
                }
            }
            if (so) {
                all.add(fear);
            }
        }
        return all;
    }

    int fits(int k) {
        return fitting(k).size();
    }

    int sure(int what, int k) {
        List<Integer> all = fitting(k);
        return all.isEmpty() || !in(what, 0, 1) ? NONE : all.get(what == 0 ? 0 : all.size() - 1);
    }

    int ask(int what, int k) {
        List<Integer> all = fitting(k);
        int best = NONE;
        int bestLeft = 1000;
        for (int n = 1; n <= 12; n++) {
            int night = n;
            int yes = (int) all.stream().filter(f -> wouldSleep(f, night)).count();
            int left = Math.max(yes, all.size() - yes);
            if (left < bestLeft) {
                best = n;
                bestLeft = left;
            }
            if (all.isEmpty()) {
                return NONE;
            }
        }
        return what == 0 ? best : what == 1 ? bestLeft : NONE;
    }

    int image(int box) {
        if (!in(box, 0, 2)) {
            return NONE;
        }
        boxes[box] = now.of();
        return now.night;
    }

    int back(int box) {
        if (!in(box, 0, 2) || boxes[box] == null) {
            return NONE;
        }
        now = boxes[box].of();
        past.clear();
        future.clear();
        return now.night;
    }

    int about(int what) {
        int[] all = {men(), boys(), set(men(), m -> now.lit[m]), now.tank, now.night, now.seed, past.size(), future.size(),
            seen.size(), time, tape.length(), told.units, lies.size(), told.number("pipes")};
        return in(what, 0, 13) ? all[what] : NONE;
    }
}
