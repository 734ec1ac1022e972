import java.util.Arrays;

/**
 * Night-lights for the grown ones: men along a lane, boys who are sent to them, nights that pass.
 * The words in capitals are those of DOC.md; promise numbers stand before each call of the face.
 */
public final class NightLights {
    public static final int NONE = -1;

    private static final int NO_SUCH = -2;
    private static final int MOST_MEN = 6;
    private static final int MOST_BOYS = 4;
    private static final int LAST_PLACE = 99;
    private static final int MOST_FEAR = 99;
    private static final int MOST_HELP = 99;
    private static final int MOST_OIL = 20;
    private static final int MOST_CALM_TRIED = 99;
    private static final int LIGHT_EASES = 3;
    private static final int LAST_NIGHT = 999;
    private static final int FORESEEN = 60;
    private static final int MOST_STEPS = 999;
    private static final int MOST_BURNING = 8;
    private static final int MOST_ODDS = 4;
    private static final int BOXES = 3;
    private static final int MOST_LATER = 1000;
    private static final int LAST_TIME = 100000;

    private final Tape tape = new Tape();
    private final Parser parser = new Parser(tape);
    private final State now = new State();
    private final State trial = new State();
    private final History history = new History();
    private final int[] boxes = new int[BOXES * State.WIDTH];
    private final Sightings sightings = new Sightings();
    private final Pairing pairing = new Pairing();
    private final Walker walker = new Walker();
    private final Burner burner = new Burner();
    private final int[] lies = new int[MOST_MEN];
    // Two parishes, so that a text with a FAULT leaves the one that is told untouched.
    private Parish told = new Parish();
    private Parish spare = new Parish();
    private int lying;
    private int boxed;
    private int time;
    private int fault;
    private int faultPlace = NONE;

    /** Promise 1. */
    public NightLights() {
        told.clear();
        told.begin(now);
        history.begin(now);
    }

    /** Promise 2. */
    public int feed(int a, int b, int c, int d, int e) {
        if (tape.length + 20 > Tape.MOST_BYTES) {
            return NONE;
        }
        tape.add(a);
        tape.add(b);
        tape.add(c);
        tape.add(d);
        tape.add(e);
        return tape.length;
    }

    /** Promise 3. */
    public int end(int n) {
        if (n < 0 || n > tape.length) {
            return NONE;
        }
        tape.length = n;
        return n;
    }

    /** Promise 4. */
    public int parish() {
        boolean good = parser.read(spare);
        fault = parser.fault;
        faultPlace = parser.place;
        if (!good) {
            return NONE;
        }
        Parish old = told;
        told = spare;
        spare = old;
        tape.length = 0;
        told.begin(now);
        history.begin(now);
        sightings.begin(told);
        boxed = 0;
        lying = 0;
        return told.men;
    }

    /** Promise 5. */
    public int fault(int what) {
        return what == 0 ? fault : what == 1 ? faultPlace : NONE;
    }

    /** Promise 6. */
    public int man(int man, int what) {
        if (!told.hasMan(man)) {
            return NO_SUCH;
        }
        switch (what) {
            case 0: return told.places[man];
            case 1: return now.fears[man];
            case 2: return told.ages[man];
            case 3: return now.oils[man];
            case 4: return now.isLit(man) ? 1 : 0;
            case 5: return now.boys[man];
            case 6: return told.easeOf(now, man);
            default: return NO_SUCH;
        }
    }

    /** Promise 7. */
    public int boy(int boy, int what) {
        if (!told.hasBoy(boy)) {
            return NO_SUCH;
        }
        switch (what) {
            case 0: return told.boyPlaces[boy];
            case 1: return told.calms[boy];
            case 2: return now.manOf(boy);
            default: return NO_SUCH;
        }
    }

    /** Promise 8. */
    public int help(int boy, int man) {
        return told.hasBoy(boy) && told.hasMan(man) ? told.helpOf(now, boy, man) : NONE;
    }

    /** Promise 9. */
    public int sleepers() {
        return told.asleepIn(now);
    }

    /** Promise 10. */
    public int night() {
        if (now.night >= LAST_NIGHT) {
            return NONE;
        }
        int asleep = told.passNight(now, true);
        history.keep(now);
        return asleep;
    }

    /** Promise 11. */
    public int send(int boy, int man) {
        if (!told.hasBoy(boy) || !told.hasMan(man)) {
            return NONE;
        }
        if (now.manOf(boy) != NONE || now.boys[man] != NONE) {
            return NONE;
        }
        now.boys[man] = boy;
        history.keep(now);
        return told.easeOf(now, man);
    }

    /** Promise 12. */
    public int recall(int boy) {
        int man = told.hasBoy(boy) ? now.manOf(boy) : NONE;
        if (man == NONE) {
            return NONE;
        }
        now.boys[man] = NONE;
        history.keep(now);
        return man;
    }

    /** Promise 13. */
    public int light(int man) {
        return turnLight(man, true);
    }

    /** Promise 14. */
    public int snuff(int man) {
        return turnLight(man, false);
    }

    private int turnLight(int man, boolean on) {
        if (!told.hasMan(man) || now.isLit(man) == on) {
            return NONE;
        }
        now.lit ^= 1 << man;
        history.keep(now);
        return now.oils[man];
    }

    /** Promise 15. */
    public int pour(int man, int much) {
        if (!told.hasMan(man) || much < 1 || much > MOST_OIL) {
            return NONE;
        }
        if (much > now.tank || now.oils[man] + much > MOST_OIL) {
            return NONE;
        }
        now.tank -= much;
        now.oils[man] += much;
        history.keep(now);
        return now.oils[man];
    }

    /** Promise 16. */
    public boolean undo() {
        return history.stepBack(now);
    }

    /** Promise 17. */
    public boolean redo() {
        return history.stepOn(now);
    }

    /** Promise 18. */
    public int will(int man, int n, int what) {
        if (!told.hasMan(man) || n < 0 || n > FORESEEN || what < 0 || what > 1) {
            return NONE;
        }
        trial.copy(now);
        for (int i = 0; i < n; i++) {
            told.passNight(trial, what == 1);
        }
        return trial.fears[man];
    }

    /** Promise 19. */
    public int asleep(int n) {
        if (n < 1 || n > FORESEEN) {
            return NONE;
        }
        trial.copy(now);
        for (int i = 1; i < n; i++) {
            told.passNight(trial, false);
        }
        return told.asleepIn(trial);
    }

    /** Promise 20. */
    public int calm() {
        trial.copy(now);
        for (int behind = 0; behind <= FORESEEN; behind++) {
            if (told.passNight(trial, false) == told.allMen()) {
                return behind;
            }
        }
        return NONE;
    }

    /** Promise 21. */
    public int sending(int what) {
        pairing.findSending(told, now);
        layPairs();
        return what == 0 ? pairing.mostAsleep : what == 1 ? pairing.mostHelp : NONE;
    }

    private void layPairs() {
        lying = 0;
        for (int man = 0; man < told.men; man++) {
            lay(pairing.best[man]);
        }
    }

    private void lay(int number) {
        if (lying < lies.length) {
            lies[lying] = number;
            lying++;
        }
    }

    /** Promise 22. */
    public int round(int boy) {
        lying = 0;
        if (!told.hasBoy(boy)) {
            return NONE;
        }
        int way = walker.findRound(told, told.boyPlaces[boy]);
        for (int i = 0; i < told.men; i++) {
            lay(walker.best[i]);
        }
        return way;
    }

    /** Promise 23. */
    public int twelve(int boy, int steps, int what) {
        if (!told.hasBoy(boy) || steps < 0 || steps > MOST_STEPS || what < 0 || what > 1) {
            return NONE;
        }
        int set = Walker.mostWithin(told, told.boyPlaces[boy], steps);
        return what == 0 ? Integer.bitCount(set) : set;
    }

    /** Promise 24. */
    public int stable() {
        int having = pairing.findStable(told, now);
        layPairs();
        return having;
    }

    /** Promise 25. */
    public int jealous(int what) {
        int pairs = 0;
        int firstMan = NONE;
        int firstBoy = NONE;
        for (int man = 0; man < told.men; man++) {
            for (int boy = 0; boy < told.boys; boy++) {
                if (areJealous(man, boy)) {
                    if (pairs == 0) {
                        firstMan = man;
                        firstBoy = boy;
                    }
                    pairs++;
                }
            }
        }
        switch (what) {
            case 0: return pairs;
            case 1: return firstMan;
            case 2: return firstBoy;
            default: return NONE;
        }
    }

    private boolean areJealous(int man, int boy) {
        int his = now.boys[man];
        if (his == boy || told.helpOf(now, boy, man) <= told.helpOf(now, his, man)) {
            return false;
        }
        int other = now.manOf(boy);
        return other == NONE || told.far(boy, man) < told.far(boy, other);
    }

    /** Promise 26. */
    public int burning(int man, int n, int what) {
        if (!told.hasMan(man) || n < 0 || n > MOST_BURNING || what < 0 || what > 1) {
            return NONE;
        }
        burner.findBurning(told, now, man, n);
        return what == 0 ? burner.mostAsleep : burner.bestSet;
    }

    /** Promise 27. */
    public int need(int n) {
        return n < 0 || n > FORESEEN ? NONE : n * Integer.bitCount(now.lit);
    }

    /** Promise 28. */
    public int least(int boy, int man) {
        if (!told.hasBoy(boy) || !told.hasMan(man)) {
            return NONE;
        }
        int fear = now.fears[man];
        int shining = now.lightOf(man);
        for (int calm = 0; calm <= MOST_CALM_TRIED; calm++) {
            int help = told.helpTo(man, told.boyPlaces[boy], calm, fear, shining, now.night);
            if (help + LIGHT_EASES * shining >= fear) {
                return calm;
            }
        }
        return NONE;
    }

    /** Promise 29. */
    public int rivals(int boy, int other) {
        lying = 0;
        if (boy == other || !isFree(boy) || !isFree(other) || everyManHasOne()) {
            return NONE;
        }
        int rests = 0;
        for (int man = 0; man < told.men; man++) {
            for (int others = 0; others < told.men; others++) {
                if (isRest(boy, other, man, others)) {
                    if (rests == 0) {
                        lay(man);
                        lay(others);
                    }
                    rests++;
                }
            }
        }
        return rests;
    }

    private boolean isFree(int boy) {
        return told.hasBoy(boy) && now.manOf(boy) == NONE;
    }

    private boolean everyManHasOne() {
        for (int man = 0; man < told.men; man++) {
            if (now.boys[man] == NONE) {
                return false;
            }
        }
        return true;
    }

    private boolean isRest(int boy, int other, int man, int others) {
        if (now.boys[man] != NONE || now.boys[others] != NONE) {
            return false;
        }
        // At like calm the first one of the call HELPS, so he wins a tie and the other one does not.
        boolean firstWins = told.calms[boy] >= told.calms[other];
        int has = rivalHelp(boy, man, others, firstWins);
        int otherHas = rivalHelp(other, others, man, !firstWins);
        for (int each = 0; each < told.men; each++) {
            if (now.boys[each] != NONE) {
                continue;
            }
            if (rivalHelp(boy, each, others, firstWins) > has) {
                return false;
            }
            if (rivalHelp(other, each, man, !firstWins) > otherHas) {
                return false;
            }
        }
        return true;
    }

    private int rivalHelp(int boy, int man, int others, boolean wins) {
        return man == others && !wins ? 0 : told.helpOf(now, boy, man);
    }

    /** Promise 30. */
    public int home(int boy, int what) {
        if (!told.hasBoy(boy) || what < 0 || what > 1) {
            return NONE;
        }
        int best = 0;
        int most = NONE;
        for (int place = 0; place <= LAST_PLACE; place++) {
            int together = helpToAll(boy, place);
            if (together > most) {
                most = together;
                best = place;
            }
        }
        return what == 0 ? best : most;
    }

    private int helpToAll(int boy, int place) {
        int sum = 0;
        for (int man = 0; man < told.men; man++) {
            int shining = now.lightOf(man);
            sum += told.helpTo(man, place, told.calms[boy], now.fears[man], shining, now.night);
        }
        return sum;
    }

    /** Promise 31. */
    public int trade(int what) {
        int asleep = told.asleepIn(now);
        int most = Integer.bitCount(asleep);
        int first = NONE;
        int second = NONE;
        for (int boy = 0; boy < told.boys; boy++) {
            for (int other = boy + 1; other < told.boys; other++) {
                int sleeping = asleepByTrade(boy, other, asleep);
                if (sleeping > most) {
                    most = sleeping;
                    first = boy;
                    second = other;
                }
            }
        }
        if (first == NONE) {
            return NONE;
        }
        switch (what) {
            case 0: return first;
            case 1: return second;
            case 2: return most;
            default: return NONE;
        }
    }

    private int asleepByTrade(int boy, int other, int asleep) {
        int man = now.manOf(boy);
        int others = now.manOf(other);
        if (man == NONE || others == NONE) {
            return NONE;
        }
        int rest = asleep & ~(1 << man) & ~(1 << others);
        int swapped = sleepsBy(other, man) + sleepsBy(boy, others);
        return Integer.bitCount(rest) + swapped;
    }

    private int sleepsBy(int boy, int man) {
        int ease = told.helpOf(now, boy, man) + LIGHT_EASES * now.lightOf(man);
        return ease >= now.fears[man] ? 1 : 0;
    }

    /** Promise 32. */
    public int idle() {
        int set = 0;
        for (int boy = 0; boy < told.boys; boy++) {
            if (now.manOf(boy) == NONE) {
                set |= 1 << boy;
            }
        }
        return set;
    }

    /** Promise 33. */
    public int dark() {
        int set = 0;
        for (int man = 0; man < told.men; man++) {
            if (now.isLit(man) && now.oils[man] == 0) {
                set |= 1 << man;
            }
        }
        return set;
    }

    /** Promise 34. */
    public int glow() {
        int set = 0;
        for (int man = 0; man < told.men; man++) {
            int fear = now.fears[man];
            boolean would = told.easeAs(now, man, fear, 1, now.night) >= fear;
            if (would && told.easeOf(now, man) < fear) {
                set |= 1 << man;
            }
        }
        return set;
    }

    /** Promise 35. */
    public int blest() {
        int best = NONE;
        int most = NONE;
        for (int man = 0; man < told.men; man++) {
            int boy = now.boys[man];
            int help = boy == NONE ? NONE : told.helpOf(now, boy, man);
            if (help > most) {
                most = help;
                best = man;
            }
        }
        return best;
    }

    /** Promise 36. */
    public int timid() {
        int best = NONE;
        int most = NONE;
        for (int man = 0; man < told.men; man++) {
            if (now.fears[man] > most) {
                most = now.fears[man];
                best = man;
            }
        }
        return best;
    }

    /** Promise 37. */
    public int nearest(int boy) {
        if (!told.hasBoy(boy)) {
            return NONE;
        }
        int best = NONE;
        int fewest = LAST_PLACE + 1;
        for (int man = 0; man < told.men; man++) {
            int far = told.far(boy, man);
            if (far < fewest) {
                fewest = far;
                best = man;
            }
        }
        return best;
    }

    /** Promise 38. */
    public int between(int place, int other) {
        int low = Math.min(place, other);
        int high = Math.max(place, other);
        if (low < 0 || high > LAST_PLACE) {
            return NONE;
        }
        int set = 0;
        for (int man = 0; man < told.men; man++) {
            if (told.places[man] >= low && told.places[man] <= high) {
                set |= 1 << man;
            }
        }
        return set;
    }

    /** Promise 39. */
    public int law(int n) {
        if (n < 0 || n > MOST_FEAR) {
            return NONE;
        }
        int asleep = 0;
        for (int man = 0; man < told.men; man++) {
            if (told.easeAs(now, man, n, now.lightOf(man), now.night) >= n) {
                asleep++;
            }
        }
        return asleep;
    }

    /** Promise 40. */
    public int odds(int n, int part) {
        if (n < 0 || n > MOST_ODDS || part < 0 || part > 1) {
            return NONE;
        }
        int quiet = 100 - told.pipes;
        int upper = 1;
        int lower = 1;
        for (int i = 0; i < n; i++) {
            upper *= quiet;
            lower *= 100;
        }
        int whole = commonDivisor(lower, upper);
        // It is at least 1, since the lower part is; the test keeps the division safe by itself.
        int divisor = whole < 1 ? 1 : whole;
        return part == 0 ? upper / divisor : lower / divisor;
    }

    private static int commonDivisor(int a, int b) {
        int big = a;
        int small = b;
        // Euclid on ints takes under 50 turns.
        for (int turn = 0; turn < 64 && small != 0; turn++) {
            int rest = big % small;
            big = small;
            small = rest;
        }
        return big;
    }

    /** Promise 41. */
    public int lies(int i) {
        return i < 0 || i >= lying ? NO_SUCH : lies[i];
    }

    /** Promise 42. */
    public int seen(int night, boolean is) {
        return told.men == 0 ? NONE : sightings.tell(night, is, time);
    }

    /** Promise 43. */
    public boolean untell(int seen) {
        return sightings.takeBack(seen, time);
    }

    /** Promise 44. */
    public int later(int by) {
        if (by < 0 || by > MOST_LATER || time + by > LAST_TIME) {
            return NONE;
        }
        time += by;
        return time;
    }

    /** Promise 45. */
    public int fits(int k) {
        return Long.bitCount(sightings.fitting(k));
    }

    /** Promise 46. */
    public int sure(int what, int k) {
        long fitting = sightings.fitting(k);
        int lowest = NONE;
        int highest = NONE;
        for (int fear = 0; fear <= Parish.MOST_TOLD_FEAR; fear++) {
            if ((fitting >> fear & 1) != 0) {
                lowest = lowest == NONE ? fear : lowest;
                highest = fear;
            }
        }
        return what == 0 ? lowest : what == 1 ? highest : NONE;
    }

    /** Promise 47. */
    public int ask(int what, int k) {
        long fitting = sightings.fitting(k);
        if (fitting == 0) {
            return NONE;
        }
        int best = NONE;
        int fewest = Integer.MAX_VALUE;
        for (int night = 1; night <= Sightings.NIGHTS; night++) {
            int left = sightings.leftAtMost(fitting, night);
            if (left < fewest) {
                fewest = left;
                best = night;
            }
        }
        return what == 0 ? best : what == 1 ? fewest : NONE;
    }

    /** Promise 48. */
    public int image(int box) {
        if (box < 0 || box >= BOXES) {
            return NONE;
        }
        now.write(boxes, box);
        boxed |= 1 << box;
        return now.night;
    }

    /** Promise 49. */
    public int back(int box) {
        if (box < 0 || box >= BOXES || (boxed >> box & 1) == 0) {
            return NONE;
        }
        now.read(boxes, box);
        history.begin(now);
        return now.night;
    }

    /** Promise 50. */
    public int about(int what) {
        switch (what) {
            case 0: return told.men;
            case 1: return told.boys;
            case 2: return now.lit;
            case 3: return now.tank;
            case 4: return now.night;
            case 5: return now.seed;
            case 6: return history.behind();
            case 7: return history.ahead();
            case 8: return sightings.count;
            case 9: return time;
            case 10: return tape.length;
            case 11: return told.formula.units;
            case 12: return lying;
            case 13: return told.pipes;
            default: return NONE;
        }
    }

    /** What ACTS change, and images keep. */
    private static final class State {
        static final int WIDTH = 3 * MOST_MEN + 4;

        final int[] fears = new int[MOST_MEN];
        final int[] oils = new int[MOST_MEN];
        /** The BOY SENT to each MAN, or NONE. */
        final int[] boys = new int[MOST_MEN];
        int lit;
        int tank;
        int night;
        int seed;

        boolean isLit(int man) {
            return (lit >> man & 1) != 0;
        }

        int lightOf(int man) {
            return isLit(man) && oils[man] > 0 ? 1 : 0;
        }

        int manOf(int boy) {
            for (int man = 0; man < MOST_MEN; man++) {
                if (boys[man] == boy) {
                    return man;
                }
            }
            return NONE;
        }

        void copy(State from) {
            System.arraycopy(from.fears, 0, fears, 0, MOST_MEN);
            System.arraycopy(from.oils, 0, oils, 0, MOST_MEN);
            System.arraycopy(from.boys, 0, boys, 0, MOST_MEN);
            lit = from.lit;
            tank = from.tank;
            night = from.night;
            seed = from.seed;
        }

        void write(int[] rows, int row) {
            int at = row * WIDTH;
            if (row < 0 || at + WIDTH > rows.length) {
                return;
            }
            System.arraycopy(fears, 0, rows, at, MOST_MEN);
            System.arraycopy(oils, 0, rows, at + MOST_MEN, MOST_MEN);
            System.arraycopy(boys, 0, rows, at + 2 * MOST_MEN, MOST_MEN);
            int rest = at + 3 * MOST_MEN;
            rows[rest] = lit;
            rows[rest + 1] = tank;
            rows[rest + 2] = night;
            rows[rest + 3] = seed;
        }

        void read(int[] rows, int row) {
            int at = row * WIDTH;
            if (row < 0 || at + WIDTH > rows.length) {
                return;
            }
            System.arraycopy(rows, at, fears, 0, MOST_MEN);
            System.arraycopy(rows, at + MOST_MEN, oils, 0, MOST_MEN);
            System.arraycopy(rows, at + 2 * MOST_MEN, boys, 0, MOST_MEN);
            int rest = at + 3 * MOST_MEN;
            lit = rows[rest];
            tank = rows[rest + 1];
            night = rows[rest + 2];
            seed = rows[rest + 3];
        }
    }

    /** UNDO and REDO: what was so behind each ACT that is kept, and before the first of them. */
    private static final class History {
        static final int KEPT = 40;

        private final int[] rows = new int[(KEPT + 1) * State.WIDTH];
        private int at;
        private int last;

        void begin(State state) {
            at = 0;
            last = 0;
            state.write(rows, 0);
        }

        void keep(State state) {
            if (at < KEPT) {
                at++;
            } else {
                System.arraycopy(rows, State.WIDTH, rows, 0, KEPT * State.WIDTH);
            }
            last = at;
            state.write(rows, at);
        }

        boolean stepBack(State state) {
            if (at == 0) {
                return false;
            }
            at--;
            state.read(rows, at);
            return true;
        }

        boolean stepOn(State state) {
            if (at == last) {
                return false;
            }
            at++;
            state.read(rows, at);
            return true;
        }

        int behind() {
            return at;
        }

        int ahead() {
            return last - at;
        }
    }

    /** The TAPE, and the TOKEN of it that is read now. */
    private static final class Tape {
        static final int MOST_BYTES = 1600;
        static final int MOST_LETTERS = 8;
        static final int MOST_DIGITS = 4;

        /** Kinds of TOKENS; a sign's kind is its own byte. */
        static final int END = 0;
        static final int NO_TOKEN = 1;
        static final int NUMBER = 2;
        static final int NAME = 3;

        /** Words that stand for themselves, by their order in WORDS. */
        static final int WORD = 200;
        static final int FEAR = WORD;
        static final int AGE = WORD + 1;
        static final int CALM = WORD + 2;
        static final int FAR = WORD + 3;
        static final int LIGHT = WORD + 4;
        static final int NIGHT = WORD + 5;
        static final int MAN = WORD + 6;
        static final int BOY = WORD + 7;
        static final int HELP = WORD + 8;
        static final int TANK = WORD + 9;
        static final int PIPES = WORD + 10;
        static final int DRAW = WORD + 11;
        static final int AT = WORD + 12;
        static final int OIL = WORD + 13;
        static final int LIT = WORD + 14;
        static final int OR = WORD + 15;
        static final int AND = WORD + 16;
        static final int NOT = WORD + 17;
        private static final String WORDS =
                "fear age calm far light night man boy help tank pipes draw at oil lit or and not ";
        private static final String SIGNS = ";()<>=+-*/%";
        private static final int LETTERS = 32;
        private static final int BEFORE_A = 'a' - 1;

        int length;
        int kind;
        int place;
        int number;
        /** The letters of a word, 5 bits each: eight of them fit, so no two words are alike in it. */
        long letters;
        private final byte[] bytes = new byte[MOST_BYTES];
        private int next;

        void add(int number) {
            if (length + 4 > MOST_BYTES) {
                return;
            }
            for (int shift = 24; shift >= 0; shift -= 8) {
                bytes[length] = (byte) (number >> shift);
                length++;
            }
        }

        void begin() {
            next = 0;
            advance();
        }

        void advance() {
            while (next < length && (byteAt(next) == 32 || byteAt(next) == 10)) {
                next++;
            }
            place = next;
            int first = byteAt(next);
            if (first < 0) {
                kind = END;
            } else if (isLetter(first)) {
                takeWord();
                kind = next - place > MOST_LETTERS ? NO_TOKEN : kindOfWord(letters);
            } else if (isDigit(first)) {
                takeNumber();
                boolean good = next - place <= MOST_DIGITS && !isLetter(byteAt(next));
                kind = good ? NUMBER : NO_TOKEN;
            } else {
                next++;
                kind = SIGNS.indexOf((char) first) >= 0 ? first : NO_TOKEN;
            }
        }

        private void takeWord() {
            letters = 0;
            while (next < length && isLetter(byteAt(next))) {
                letters = letters * LETTERS + (byteAt(next) - BEFORE_A);
                next++;
            }
        }

        private void takeNumber() {
            number = 0;
            while (next < length && isDigit(byteAt(next))) {
                number = number * 10 + (byteAt(next) - '0');
                next++;
            }
        }

        private int byteAt(int i) {
            return i < 0 || i >= length || i >= MOST_BYTES ? -1 : bytes[i] & 255;
        }

        private static int kindOfWord(long letters) {
            long each = 0;
            int word = WORD;
            for (int i = 0; i < WORDS.length(); i++) {
                char c = WORDS.charAt(i);
                if (c != ' ') {
                    each = each * LETTERS + (c - BEFORE_A);
                } else if (each == letters) {
                    return word;
                } else {
                    each = 0;
                    word++;
                }
            }
            return NAME;
        }

        private static boolean isLetter(int c) {
            return c >= 'a' && c <= 'z';
        }

        private static boolean isDigit(int c) {
            return c >= '0' && c <= '9';
        }
    }

    /** Reads the TAPE into a parish, up to the first FAULT. */
    private static final class Parser {
        static final int MOST_NESTED = 7;
        static final int MOST_TANK = 99;
        static final int MOST_PIPES = 100;
        static final int MOST_DRAW = 999;

        int fault;
        int place;
        private final Tape tape;
        private final long[] menNames = new long[MOST_MEN];
        private final long[] boysNames = new long[MOST_BOYS];
        private Parish parish;
        private int linesTold;

        Parser(Tape tape) {
            this.tape = tape;
        }

        boolean read(Parish into) {
            parish = into;
            parish.clear();
            linesTold = 0;
            fault = 0;
            place = NONE;
            tape.begin();
            boolean good = true;
            for (int line = 0; good && line <= Tape.MOST_BYTES && tape.kind != Tape.END; line++) {
                switch (tape.kind) {
                    case Tape.MAN: good = manLine(); break;
                    case Tape.BOY: good = boyLine(); break;
                    case Tape.HELP: good = helpLine(); break;
                    case Tape.TANK: good = numberLine(Tape.TANK, MOST_TANK); break;
                    case Tape.PIPES: good = numberLine(Tape.PIPES, MOST_PIPES); break;
                    case Tape.DRAW: good = numberLine(Tape.DRAW, MOST_DRAW); break;
                    default: good = refuse(); break;
                }
            }
            return good;
        }

        private boolean manLine() {
            if (parish.men >= MOST_MEN) {
                return refuse();
            }
            tape.advance();
            if (!name(menNames, parish.men)) {
                return false;
            }
            int at = field(Tape.AT, LAST_PLACE);
            int fear = at < 0 ? NONE : field(Tape.FEAR, Parish.MOST_TOLD_FEAR);
            int age = fear < 0 ? NONE : field(Tape.AGE, Parish.MOST_AGE);
            if (age < 0) {
                return false;
            }
            int oil = tape.kind == Tape.OIL ? field(Tape.OIL, MOST_OIL) : 0;
            if (oil < 0) {
                return false;
            }
            boolean lit = tape.kind == Tape.LIT;
            if (lit) {
                tape.advance();
            }
            parish.addMan(at, fear, age, oil, lit);
            return closing();
        }

        private boolean boyLine() {
            if (parish.boys >= MOST_BOYS) {
                return refuse();
            }
            tape.advance();
            if (!name(boysNames, parish.boys)) {
                return false;
            }
            int at = field(Tape.AT, LAST_PLACE);
            int calm = at < 0 ? NONE : field(Tape.CALM, Parish.MOST_TOLD_CALM);
            if (calm < 0) {
                return false;
            }
            parish.addBoy(at, calm);
            return closing();
        }

        private boolean helpLine() {
            if (!once(Tape.HELP)) {
                return false;
            }
            tape.advance();
            parish.formula.clear();
            return either(0) && closing();
        }

        private boolean numberLine(int word, int most) {
            if (!once(word)) {
                return false;
            }
            int number = field(word, most);
            if (number < 0) {
                return false;
            }
            switch (word) {
                case Tape.TANK: parish.tank = number; break;
                case Tape.PIPES: parish.pipes = number; break;
                default: parish.draw = number; break;
            }
            return closing();
        }

        private boolean once(int word) {
            int bit = 1 << (word - Tape.WORD);
            if ((linesTold & bit) != 0) {
                return refuse();
            }
            linesTold |= bit;
            return true;
        }

        private boolean name(long[] names, int count) {
            if (tape.kind != Tape.NAME || count >= names.length) {
                return refuse();
            }
            for (int i = 0; i < count; i++) {
                if (names[i] == tape.letters) {
                    return fail(3);
                }
            }
            names[count] = tape.letters;
            tape.advance();
            return true;
        }

        /** The number behind a word, both gone past; NONE at a FAULT. */
        private int field(int word, int most) {
            if (tape.kind != word) {
                refuse();
                return NONE;
            }
            tape.advance();
            if (tape.kind != Tape.NUMBER) {
                refuse();
                return NONE;
            }
            if (tape.number > most) {
                fail(4);
                return NONE;
            }
            int number = tape.number;
            tape.advance();
            return number;
        }

        private boolean closing() {
            if (tape.kind != ';') {
                return refuse();
            }
            tape.advance();
            return true;
        }

        private boolean either(int depth) {
            boolean good = both(depth);
            for (int i = 0; good && i < Formula.MOST_UNITS && tape.kind == Tape.OR; i++) {
                tape.advance();
                good = both(depth);
                parish.formula.add(Tape.OR);
            }
            return good;
        }

        private boolean both(int depth) {
            boolean good = one(depth);
            for (int i = 0; good && i < Formula.MOST_UNITS && tape.kind == Tape.AND; i++) {
                tape.advance();
                good = one(depth);
                parish.formula.add(Tape.AND);
            }
            return good;
        }

        private boolean one(int depth) {
            if (tape.kind == Tape.NOT) {
                return negation(depth);
            }
            boolean good = sum(depth);
            int sign = tape.kind;
            if (good && (sign == '<' || sign == '>' || sign == '=')) {
                tape.advance();
                good = sum(depth);
                parish.formula.add(sign);
            }
            return good;
        }

        private boolean negation(int depth) {
            if (depth >= MOST_NESTED) {
                return refuse();
            }
            tape.advance();
            boolean good = one(depth + 1);
            parish.formula.add(Tape.NOT);
            return good;
        }

        private boolean sum(int depth) {
            boolean good = term(depth);
            for (int i = 0; good && i < Formula.MOST_UNITS && isAdding(tape.kind); i++) {
                int sign = tape.kind;
                tape.advance();
                good = term(depth);
                parish.formula.add(sign);
            }
            return good;
        }

        private static boolean isAdding(int kind) {
            return kind == '+' || kind == '-';
        }

        private boolean term(int depth) {
            boolean good = unit(depth);
            for (int i = 0; good && i < Formula.MOST_UNITS && isScaling(tape.kind); i++) {
                int sign = tape.kind;
                tape.advance();
                good = unit(depth);
                parish.formula.add(sign);
            }
            return good;
        }

        private static boolean isScaling(int kind) {
            return kind == '*' || kind == '/' || kind == '%';
        }

        private boolean unit(int depth) {
            int kind = tape.kind;
            boolean opens = kind == '(';
            if (!opens && kind != Tape.NUMBER && !Formula.isKnown(kind)) {
                return refuse();
            }
            // There is but one help, so that 30 in one e come before 60 in all.
            if (parish.formula.units >= Formula.MOST_UNITS || opens && depth >= MOST_NESTED) {
                return refuse();
            }
            parish.formula.units++;
            if (opens) {
                return inParentheses(depth);
            }
            parish.formula.add(kind == Tape.NUMBER ? Formula.NUMBERS + tape.number : kind);
            tape.advance();
            return true;
        }

        private boolean inParentheses(int depth) {
            tape.advance();
            if (!either(depth + 1)) {
                return false;
            }
            if (tape.kind != ')') {
                return refuse();
            }
            tape.advance();
            return true;
        }

        private boolean refuse() {
            return fail(tape.kind == Tape.NO_TOKEN ? 1 : 2);
        }

        private boolean fail(int number) {
            fault = number;
            place = tape.place;
            return false;
        }
    }

    /** What help tells, its operators behind their operands. */
    private static final class Formula {
        static final int MOST_UNITS = 30;
        /** A step of this much and more is a number; other steps are kinds of TOKENS. */
        static final int NUMBERS = 1000;
        private static final int KNOWN = 6;
        /** Each unit, an operator behind each but one, and seven nots before each. */
        private static final int MOST_STEPS_KEPT = MOST_UNITS * (2 + Parser.MOST_NESTED);

        int units;
        private int length;
        private final int[] steps = new int[MOST_STEPS_KEPT];
        private final int[] stack = new int[MOST_UNITS];
        private final int[] known = new int[KNOWN];

        static boolean isKnown(int kind) {
            return kind >= Tape.FEAR && kind <= Tape.NIGHT;
        }

        void clear() {
            length = 0;
            units = 0;
        }

        void setUntold() {
            clear();
            add(Tape.CALM);
            add(Tape.FAR);
            add('-');
        }

        void add(int step) {
            if (length < steps.length) {
                steps[length] = step;
                length++;
            }
        }

        int value(int fear, int age, int calm, int far, int light, int night) {
            known[0] = fear;
            known[1] = age;
            known[2] = calm;
            known[3] = far;
            known[4] = light;
            known[5] = night;
            int top = 0;
            for (int i = 0; i < length; i++) {
                int step = steps[i];
                if (step >= NUMBERS || isKnown(step)) {
                    if (top < stack.length) {
                        stack[top] = step >= NUMBERS ? step - NUMBERS : known[step - Tape.FEAR];
                        top++;
                    }
                } else if (step == Tape.NOT) {
                    if (top > 0) {
                        stack[top - 1] = stack[top - 1] == 0 ? 1 : 0;
                    }
                } else if (top > 1) {
                    top--;
                    stack[top - 1] = join(step, stack[top - 1], stack[top]);
                }
            }
            return top > 0 ? stack[0] : 0;
        }

        private static int join(int operator, int left, int right) {
            switch (operator) {
                case '+': return left + right;
                case '-': return left - right;
                case '*': return left * right;
                case '/': return right == 0 ? 0 : left / right;
                case '%': return right == 0 ? 0 : left % right;
                case '<': return left < right ? 1 : 0;
                case '>': return left > right ? 1 : 0;
                case '=': return left == right ? 1 : 0;
                case Tape.AND: return left != 0 && right != 0 ? 1 : 0;
                case Tape.OR: return left != 0 || right != 0 ? 1 : 0;
                default: return 0;
            }
        }
    }

    /** A PARISH as told, and what comes of it in a state. */
    private static final class Parish {
        static final int MOST_TOLD_FEAR = 40;
        static final int MOST_TOLD_CALM = 30;
        static final int MOST_AGE = 99;

        int men;
        int boys;
        int tank;
        int pipes;
        int draw;
        final Formula formula = new Formula();
        final int[] places = new int[MOST_MEN];
        final int[] ages = new int[MOST_MEN];
        final int[] boyPlaces = new int[MOST_BOYS];
        final int[] calms = new int[MOST_BOYS];
        private final int[] fears = new int[MOST_MEN];
        private final int[] oils = new int[MOST_MEN];
        private int lit;

        void clear() {
            men = 0;
            boys = 0;
            tank = 0;
            pipes = 0;
            draw = 0;
            lit = 0;
            formula.setUntold();
        }

        void addMan(int place, int fear, int age, int oil, boolean isLit) {
            if (men >= MOST_MEN) {
                return;
            }
            places[men] = place;
            fears[men] = fear;
            ages[men] = age;
            oils[men] = oil;
            lit |= isLit ? 1 << men : 0;
            men++;
        }

        void addBoy(int place, int calm) {
            if (boys >= MOST_BOYS) {
                return;
            }
            boyPlaces[boys] = place;
            calms[boys] = calm;
            boys++;
        }

        void begin(State state) {
            System.arraycopy(fears, 0, state.fears, 0, MOST_MEN);
            System.arraycopy(oils, 0, state.oils, 0, MOST_MEN);
            Arrays.fill(state.boys, NONE);
            state.lit = lit;
            state.tank = tank;
            state.night = 0;
            state.seed = draw;
        }

        boolean hasMan(int man) {
            return man >= 0 && man < men;
        }

        boolean hasBoy(int boy) {
            return boy >= 0 && boy < boys;
        }

        int allMen() {
            return (1 << men) - 1;
        }

        int far(int boy, int man) {
            return Math.abs(boyPlaces[boy] - places[man]);
        }

        /** HELP to a MAN from a place, by such a calm, were his FEAR, light and the night so. */
        int helpTo(int man, int place, int calm, int fear, int light, int night) {
            int far = Math.abs(place - places[man]);
            int comes = formula.value(fear, ages[man], calm, far, light, night);
            return Math.max(0, Math.min(MOST_HELP, comes));
        }

        /** HELP; 0 of none. */
        int helpOf(State state, int boy, int man) {
            if (!hasBoy(boy)) {
                return 0;
            }
            int light = state.lightOf(man);
            return helpTo(man, boyPlaces[boy], calms[boy], state.fears[man], light, state.night);
        }

        /** EASE by the BOY who is SENT, were his FEAR, light and the night so. */
        int easeAs(State state, int man, int fear, int light, int night) {
            int boy = state.boys[man];
            int help = hasBoy(boy)
                    ? helpTo(man, boyPlaces[boy], calms[boy], fear, light, night) : 0;
            return help + LIGHT_EASES * light;
        }

        int easeOf(State state, int man) {
            return easeAs(state, man, state.fears[man], state.lightOf(man), state.night);
        }

        int asleepIn(State state) {
            int set = 0;
            for (int man = 0; man < men; man++) {
                if (easeOf(state, man) >= state.fears[man]) {
                    set |= 1 << man;
                }
            }
            return set;
        }

        int passNight(State state, boolean knocking) {
            int asleep = 0;
            for (int man = 0; man < men; man++) {
                boolean sleeps = easeOf(state, man) >= state.fears[man];
                asleep |= sleeps ? 1 << man : 0;
                state.oils[man] -= state.lightOf(man);
                state.fears[man] = fearBehind(state.fears[man], sleeps);
                if (knocking && knocks(state)) {
                    state.fears[man] = Math.min(MOST_FEAR, state.fears[man] + 2);
                }
            }
            state.night++;
            return asleep;
        }

        static int fearBehind(int fear, boolean slept) {
            return slept ? Math.max(0, fear - 1) : Math.min(MOST_FEAR, fear + 1);
        }

        private boolean knocks(State state) {
            state.seed = (state.seed * 137 + 71) % 1000;
            return state.seed % 100 < pipes;
        }

        /** On which NIGHTS (bit 1 the first) the last MAN would SLEEP, as told but for his fear. */
        int nightsAsleep(int toldFear, int nights) {
            int last = men - 1;
            if (last < 0) {
                return 0;
            }
            int set = 0;
            int fear = toldFear;
            int oil = (lit >> last & 1) != 0 ? oils[last] : 0;
            for (int night = 1; night <= nights; night++) {
                int ease = oil > 0 ? LIGHT_EASES : 0;
                set |= ease >= fear ? 1 << night : 0;
                fear = fearBehind(fear, ease >= fear);
                oil = Math.max(0, oil - 1);
            }
            return set;
        }
    }

    /** SEEN, TOLD and UNTOLD; sets of fears are bits of a long. */
    private static final class Sightings {
        static final int NIGHTS = 12;
        private static final int MOST_SEEN = 30;

        int count;
        private final int[] nights = new int[MOST_SEEN];
        private final boolean[] slept = new boolean[MOST_SEEN];
        private final int[] toldAt = new int[MOST_SEEN];
        /** NONE while it is not UNTOLD. */
        private final int[] untoldAt = new int[MOST_SEEN];
        private final long[] asleepOn = new long[NIGHTS + 1];
        private long allFears;

        void begin(Parish told) {
            count = 0;
            allFears = 0;
            Arrays.fill(asleepOn, 0L);
            for (int fear = 0; told.men > 0 && fear <= Parish.MOST_TOLD_FEAR; fear++) {
                allFears |= 1L << fear;
                int set = told.nightsAsleep(fear, NIGHTS);
                for (int night = 1; night <= NIGHTS; night++) {
                    asleepOn[night] |= (long) (set >> night & 1) << fear;
                }
            }
        }

        int tell(int night, boolean is, int time) {
            if (night < 1 || night > NIGHTS || count >= MOST_SEEN) {
                return NONE;
            }
            nights[count] = night;
            slept[count] = is;
            toldAt[count] = time;
            untoldAt[count] = NONE;
            count++;
            return count - 1;
        }

        boolean takeBack(int seen, int time) {
            if (seen < 0 || seen >= count || untoldAt[seen] != NONE) {
                return false;
            }
            untoldAt[seen] = time;
            return true;
        }

        private boolean counts(int seen, int k) {
            return toldAt[seen] <= k && (untoldAt[seen] == NONE || untoldAt[seen] > k);
        }

        long fitting(int k) {
            long set = allFears;
            for (int i = 0; i < count; i++) {
                if (counts(i, k)) {
                    long asleep = asleepOn[nights[i]];
                    set &= slept[i] ? asleep : ~asleep;
                }
            }
            return set;
        }

        int leftAtMost(long fitting, int night) {
            if (night < 0 || night >= asleepOn.length) {
                return 0;
            }
            int asleep = Long.bitCount(fitting & asleepOn[night]);
            return Math.max(asleep, Long.bitCount(fitting) - asleep);
        }
    }

    /** BOYS given to MEN anew: SENDING and STABLE. */
    private static final class Pairing {
        /** The BOY of each MAN, or NONE. */
        final int[] best = new int[MOST_MEN];
        int mostAsleep;
        int mostHelp;
        private int men;
        private int boys;
        private final int[] helps = new int[MOST_MEN * MOST_BOYS];
        /** How much HELP each MAN wants to SLEEP. */
        private final int[] wanted = new int[MOST_MEN];
        private final int[] tried = new int[MOST_MEN];
        private final int[] refusals = new int[MOST_MEN];

        private void begin(Parish told, State now) {
            men = told.men;
            boys = told.boys;
            Arrays.fill(best, NONE);
            Arrays.fill(refusals, 0);
            for (int man = 0; man < men; man++) {
                wanted[man] = now.fears[man] - LIGHT_EASES * now.lightOf(man);
                for (int boy = 0; boy < boys; boy++) {
                    helps[man * MOST_BOYS + boy] = told.helpOf(now, boy, man);
                }
            }
        }

        void findSending(Parish told, State now) {
            begin(told, now);
            mostAsleep = NONE;
            mostHelp = NONE;
            tryFrom(0, 0, 0, 0);
        }

        // The first of like ones stands, since they are tried in order and only a better one replaces.
        private void tryFrom(int man, int used, int asleep, int sum) {
            if (man >= men || man >= MOST_MEN) {
                keepIfBetter(asleep, sum);
                return;
            }
            for (int boy = 0; boy < boys; boy++) {
                if ((used >> boy & 1) == 0) {
                    int help = helps[man * MOST_BOYS + boy];
                    int sleeps = help >= wanted[man] ? 1 : 0;
                    tried[man] = boy;
                    tryFrom(man + 1, used | 1 << boy, asleep + sleeps, sum + help);
                }
            }
            tried[man] = NONE;
            tryFrom(man + 1, used, asleep + (wanted[man] <= 0 ? 1 : 0), sum);
        }

        private void keepIfBetter(int asleep, int sum) {
            if (asleep > mostAsleep || asleep == mostAsleep && sum > mostHelp) {
                mostAsleep = asleep;
                mostHelp = sum;
                System.arraycopy(tried, 0, best, 0, MOST_MEN);
            }
        }

        int findStable(Parish told, State now) {
            begin(told, now);
            // No MAN asks one BOY twice.
            for (int turn = 0; turn < MOST_MEN * MOST_BOYS; turn++) {
                int man = nextAsking();
                if (man != NONE) {
                    askFor(told, man, dearest(man));
                }
            }
            int having = 0;
            for (int man = 0; man < men; man++) {
                having += best[man] == NONE ? 0 : 1;
            }
            return having;
        }

        private int nextAsking() {
            for (int man = 0; man < men; man++) {
                if (best[man] == NONE && dearest(man) != NONE) {
                    return man;
                }
            }
            return NONE;
        }

        private int dearest(int man) {
            int dearest = NONE;
            int most = 0;
            for (int boy = 0; boy < boys; boy++) {
                int help = helps[man * MOST_BOYS + boy];
                if (help > most && (refusals[man] >> boy & 1) == 0) {
                    most = help;
                    dearest = boy;
                }
            }
            return dearest;
        }

        private void askFor(Parish told, int man, int boy) {
            if (!told.hasBoy(boy)) {
                return;
            }
            int holder = NONE;
            for (int each = 0; each < men; each++) {
                holder = best[each] == boy ? each : holder;
            }
            if (holder == NONE) {
                best[man] = boy;
                return;
            }
            int far = told.far(boy, man);
            int holderFar = told.far(boy, holder);
            if (far < holderFar || far == holderFar && man < holder) {
                best[holder] = NONE;
                refusals[holder] |= 1 << boy;
                best[man] = boy;
            } else {
                refusals[man] |= 1 << boy;
            }
        }
    }

    /** Ways of a BOY along the lane: ROUND and TWELVE. */
    private static final class Walker {
        /** The MEN in the order of the ROUND. */
        final int[] best = new int[MOST_MEN];
        private final int[] order = new int[MOST_MEN];
        private int shortest;

        int findRound(Parish told, int from) {
            shortest = Integer.MAX_VALUE;
            walk(told, 0, 0, from, 0);
            return shortest;
        }

        // The first of like ones stands, since orders are tried by numbers and only a shorter one replaces.
        private void walk(Parish told, int count, int visited, int from, int way) {
            if (way >= shortest) {
                return;
            }
            if (count >= told.men || count >= MOST_MEN) {
                shortest = way;
                System.arraycopy(order, 0, best, 0, MOST_MEN);
                return;
            }
            for (int man = 0; man < told.men; man++) {
                if ((visited >> man & 1) == 0) {
                    int place = told.places[man];
                    order[count] = man;
                    walk(told, count + 1, visited | 1 << man, place, way + Math.abs(place - from));
                }
            }
        }

        static int mostWithin(Parish told, int from, int steps) {
            int best = 0;
            for (int set = 1; set <= told.allMen(); set++) {
                boolean more = Integer.bitCount(set) > Integer.bitCount(best);
                if (more && wayTo(told, from, set) <= steps) {
                    best = set;
                }
            }
            return best;
        }

        // The shortest way goes to one end of the set and then to the other one, the nearer end first.
        private static int wayTo(Parish told, int from, int set) {
            int low = from;
            int high = from;
            for (int man = 0; man < told.men; man++) {
                if ((set >> man & 1) != 0) {
                    low = Math.min(low, told.places[man]);
                    high = Math.max(high, told.places[man]);
                }
            }
            return high - low + Math.min(from - low, high - from);
        }
    }

    /** BURNING of one MAN. */
    private static final class Burner {
        int mostAsleep;
        int bestSet;
        private Parish parish;
        private State state;
        private int him;
        private int nights;

        void findBurning(Parish told, State now, int man, int n) {
            parish = told;
            state = now;
            him = man;
            nights = n;
            mostAsleep = NONE;
            bestSet = 0;
            burn(0, now.fears[man], 0, 0);
        }

        private void burn(int behind, int fear, int set, int asleep) {
            if (behind >= nights || behind >= MOST_BURNING) {
                keepIfBetter(set, asleep);
                return;
            }
            int most = Integer.bitCount(set) < state.oils[him] ? 1 : 0;
            for (int light = 0; light <= most; light++) {
                int ease = parish.easeAs(state, him, fear, light, state.night + behind);
                boolean sleeps = ease >= fear;
                int then = Parish.fearBehind(fear, sleeps);
                burn(behind + 1, then, set | light << behind, asleep + (sleeps ? 1 : 0));
            }
        }

        private void keepIfBetter(int set, int asleep) {
            int fewer = Integer.bitCount(bestSet) - Integer.bitCount(set);
            boolean better = fewer > 0 || fewer == 0 && set < bestSet;
            if (asleep > mostAsleep || asleep == mostAsleep && better) {
                mostAsleep = asleep;
                bestSet = set;
            }
        }
    }
}
