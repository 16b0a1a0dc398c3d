/**
 * A wireless that hums: what is heard of it, what may be in trouble in it,
 * what to ask next and what to change. The document is ../shared/DOC.md; the
 * words in capitals are its terms.
 */
public final class HummingSet {
    public static final int BAD = -1, NO = -2, FULL = -3, NONE = -4;

    private static final int LEAST = -2147483648;
    private static final int BYTES_MOST = 400;
    private static final int STAGES_MOST = 6;
    private static final int PARTS_MOST = 8;
    private static final int LETS_MOST = 16;
    private static final int MAINS_MOST = 6;
    private static final int WAYS_MOST = 6;
    private static final int TONES = 3;
    private static final int KINDS = 5;
    private static final int NUMBERS_MOST = 5;
    private static final int FIGURES_MOST = 3;
    private static final int STATES_MOST = 256;
    /** No part, eight single ones and twenty-eight pairs. */
    private static final int CASES_MOST = 37;
    private static final int TROUBLES_MOST = 2;
    private static final int ANSWERS_MOST = 10;
    private static final int ANSWER_HIGHEST = 9;
    private static final int KEPT_MOST = 2;
    private static final int WARM = 30;
    private static final int PLUG_MINUTES = 999;
    private static final int YEARS_MOST = 50;
    private static final int DRAWS_HIGHEST = 9999;
    private static final int NOWHERE = -1;
    private static final int TIN = 0;
    private static final int LISTEN = 0, OUT = 1, FINGER = 2, ACROSS = 3, MEASURE = 4;
    private static final int[] MINUTES = {1, 3, 2, 4, 5};

    private final Text text = new Text();
    private final Reader reader = new Reader();
    private final Bench bench = new Bench();
    private final Answers answers = new Answers();
    private final Answers firstKept = new Answers();
    private final Answers secondKept = new Answers();
    private final Cases cases = new Cases();
    private final Search search = new Search();
    private final Plan plan = new Plan();
    /** What is LAID, and a second one to read into, so that a FAULT leaves the first as it is. */
    private Wireless laid = new Wireless();
    private Wireless spare = new Wireless();
    private int kept;

    public HummingSet() {
        laid.takeStage(10, 99);
        laid.takePart(0, TIN, 0, 5, 0);
        laid.takeLet(0, 0, 30);
        plan.learn(laid, bench);
        weighAnew();
    }

    // ---- sets

    public int write(int n, long v) {
        if (!within(n, 1, 8)) {
            return BAD;
        }
        if (!text.hasRoom(n)) {
            return FULL;
        }
        text.append(n, v);
        return text.length;
    }

    public int wipe() {
        int before = text.length;
        text.length = 0;
        return before;
    }

    public int fault() {
        return reader.read(text, spare);
    }

    public int lay() {
        if (reader.read(text, spare) != NONE || spare.stageCount == 0 || spare.partCount == 0) {
            return NO;
        }
        Wireless before = laid;
        laid = spare;
        spare = before;
        answers.count = 0;
        kept = 0;
        plan.learn(laid, bench);
        weighAnew();
        return laid.partCount;
    }

    public int part(int p, int what) {
        if (!laid.hasPart(p)) {
            return BAD;
        }
        Part of = laid.parts[p];
        switch (what) {
            case 0: return of.stage;
            case 1: return of.kind;
            case 2: return of.age;
            case 3: return of.trouble;
            case 4: return of.warm;
            case 5: return of.cost;
            default: return BAD;
        }
    }

    // ---- what is heard

    public int hum(int state, int tone, int m) {
        if (!laid.hasState(state) || !isTone(tone) || !isMinute(m)) {
            return LEAST;
        }
        bench.play(laid, state, m, NOWHERE, NOWHERE);
        return bench.ends[tone];
    }

    public int in(int state, int stage, int tone, int m) {
        if (!laid.hasState(state) || !laid.hasStage(stage) || !isTone(tone) || !isMinute(m)) {
            return LEAST;
        }
        bench.play(laid, state, m, NOWHERE, NOWHERE);
        return bench.ins[stage][tone];
    }

    public int heard(int state, int m, int what) {
        if (!laid.hasState(state) || !isMinute(m) || !within(what, 0, 1)) {
            return BAD;
        }
        bench.play(laid, state, m, NOWHERE, NOWHERE);
        return what == 0 ? bench.tonesHeard(laid) : bench.loudness();
    }

    public int ask(int state, int kind, int of, int m) {
        if (!laid.hasState(state) || !laid.hasAsk(kind, of) || !isMinute(m)) {
            return BAD;
        }
        return bench.reply(laid, state, kind, of, m);
    }

    public int risk(int kind, int of) {
        if (!laid.hasAsk(kind, of)) {
            return BAD;
        }
        return laid.riskOf(kind, of);
    }

    public int volts(int p, int m) {
        if (!laid.hasPart(p) || !within(m, 0, PLUG_MINUTES)) {
            return BAD;
        }
        return laid.parts[p].voltsAfter(m);
    }

    public int safe() {
        return laid.minuteOfNoShock();
    }

    // ---- odds

    public int answer(int kind, int of, int m, int a) {
        if (!laid.hasAsk(kind, of) || !isMinute(m) || !within(a, 0, ANSWER_HIGHEST)) {
            return BAD;
        }
        if (answers.count >= ANSWERS_MOST) {
            return FULL;
        }
        answers.add(kind, of, m, a);
        cases.narrow(laid, bench, answers, answers.count - 1);
        return answers.count;
    }

    public int forget() {
        int before = answers.count;
        answers.count = 0;
        weighAnew();
        return before;
    }

    public long possible(int what) {
        if (!within(what, 0, 1)) {
            return BAD;
        }
        return what == 0 ? cases.count : cases.total;
    }

    public long odds(int p, int part) {
        if (!laid.hasPart(p) || !within(part, 0, 1)) {
            return BAD;
        }
        if (cases.count == 0) {
            return NONE;
        }
        long above = cases.weightWith(p);
        long below = cases.total;
        long common = commonDivisor(above, below);
        if (common == 0) {
            return NONE;
        }
        return part == 0 ? above / common : below / common;
    }

    public int likeliest() {
        return cases.heaviest();
    }

    public long next(int m, int what) {
        if (!isMinute(m) || !within(what, 0, 2)) {
            return BAD;
        }
        if (cases.count == 0) {
            return NONE;
        }
        search.find(laid, bench, cases, m);
        switch (what) {
            case 0: return search.kind;
            case 1: return search.of;
            default: return search.weight;
        }
    }

    public int change(int q, int what) {
        if (!within(q, 0, 100) || !within(what, 0, 1)) {
            return BAD;
        }
        if (cases.count == 0) {
            return NONE;
        }
        int parts = plan.cheapest(laid, cases, q);
        if (parts == NONE) {
            return NONE;
        }
        return what == 0 ? parts : laid.costOf(parts);
    }

    public long oneByOne(int what) {
        if (!within(what, 0, 1)) {
            return BAD;
        }
        plan.row(laid, cases);
        return what == 0 ? plan.sums[0] : plan.firstPart;
    }

    // ---- beside

    public int louder(int state) {
        if (!laid.hasState(state)) {
            return BAD;
        }
        int before = loudWarm(state);
        int found = 0;
        for (int p = 0; p < laid.partCount; p++) {
            int bit = 1 << p;
            if ((state & bit) != 0 && loudWarm(state & ~bit) > before) {
                found |= bit;
            }
        }
        return found;
    }

    public int howls() {
        return laid.tonesHowling();
    }

    public int goes(int p, int y) {
        if (!laid.hasPart(p) || !within(y, 1, YEARS_MOST)) {
            return BAD;
        }
        return laid.goneOf(p, y);
    }

    public int nextToGo(int y) {
        if (!within(y, 1, YEARS_MOST)) {
            return BAD;
        }
        int first = 0;
        int most = laid.goneOf(0, y);
        for (int p = 1; p < laid.partCount; p++) {
            int gone = laid.goneOf(p, y);
            if (gone > most) {
                most = gone;
                first = p;
            }
        }
        return first;
    }

    public int set(int z) {
        if (!within(z, 0, DRAWS_HIGHEST)) {
            return BAD;
        }
        int state = 0;
        for (int p = 0; p < laid.partCount; p++) {
            long x = 7919L * z + 6151L * p + 1;
            if (x * x % 65521 % 10 < laid.parts[p].trouble) {
                state |= 1 << p;
            }
        }
        return state;
    }

    public int keep() {
        if (kept >= KEPT_MOST) {
            return FULL;
        }
        if (kept == 0) {
            firstKept.copyFrom(answers);
        } else {
            secondKept.copyFrom(answers);
        }
        kept++;
        return kept;
    }

    public int back() {
        if (kept <= 0) {
            return NO;
        }
        kept--;
        answers.copyFrom(kept == 0 ? firstKept : secondKept);
        weighAnew();
        return kept;
    }

    public int count(int what) {
        switch (what) {
            case 0: return laid.stageCount;
            case 1: return laid.partCount;
            case 2: return text.length;
            case 3: return answers.count;
            case 4: return kept;
            default: return BAD;
        }
    }

    // ---- helpers

    private void weighAnew() {
        cases.fill(laid);
        for (int i = 0; i < answers.count; i++) {
            cases.narrow(laid, bench, answers, i);
        }
    }

    private int loudWarm(int state) {
        bench.play(laid, state, WARM, NOWHERE, NOWHERE);
        return bench.loudness();
    }

    private static boolean within(int x, int lowest, int highest) {
        return x >= lowest && x <= highest;
    }

    private static boolean isTone(int tone) {
        return within(tone, 0, TONES - 1);
    }

    private static boolean isMinute(int m) {
        return within(m, 0, WARM);
    }

    /** Euclid; 100 steps are more than two longs can need. */
    private static long commonDivisor(long a, long b) {
        long high = a;
        long low = b;
        for (int i = 0; i < 100 && low != 0; i++) {
            long rest = high % low;
            high = low;
            low = rest;
        }
        return high;
    }

    /** THE TEXT, as it was written. */
    private static final class Text {
        private static final int BEYOND = -1;

        private final byte[] bytes = new byte[BYTES_MOST];
        private int length;

        private boolean hasRoom(int n) {
            return n <= BYTES_MOST - length;
        }

        private void append(int n, long v) {
            for (int i = n - 1; i >= 0 && length < BYTES_MOST; i--) {
                bytes[length] = (byte) (v >>> (8 * i));
                length++;
            }
        }

        private int at(int place) {
            return place >= 0 && place < length ? bytes[place] & 255 : BEYOND;
        }
    }

    /** Reads THE TEXT, ITEM by ITEM. */
    private static final class Reader {
        private final int[] numbers = new int[NUMBERS_MOST];
        private int place;

        /** The FAULT, or NONE; what was read up to there stands in the set. */
        private int read(Text text, Wireless into) {
            into.clear();
            place = 0;
            for (int items = 0; items < BYTES_MOST && place < text.length; items++) {
                int start = place;
                if (!readItem(text, into)) {
                    return start;
                }
            }
            return NONE;
        }

        private boolean readItem(Text text, Wireless into) {
            int letter = text.at(place);
            int many = numbersOf(letter);
            if (many == 0) {
                return false;
            }
            place++;
            for (int i = 0; i < many; i++) {
                if (!readNumber(text, i) || text.at(place) != (i + 1 < many ? ',' : ';')) {
                    return false;
                }
                place++;
            }
            return takeItem(letter, into);
        }

        private static int numbersOf(int letter) {
            switch (letter) {
                case 's': case 'c': case 'e': case 'k': return 2;
                case 'h': case 'm': case 'f': case 'v': return 3;
                case 'p': return 5;
                default: return 0;
            }
        }

        private boolean readNumber(Text text, int i) {
            boolean minus = text.at(place) == '-';
            if (minus) {
                place++;
            }
            int value = 0;
            int figures = 0;
            while (figures < FIGURES_MOST && within(text.at(place), '0', '9')) {
                value = value * 10 + text.at(place) - '0';
                figures++;
                place++;
            }
            if (figures == 0 || minus && value == 0 || i < 0 || i >= NUMBERS_MOST) {
                return false;
            }
            numbers[i] = minus ? -value : value;
            return true;
        }

        private boolean takeItem(int letter, Wireless into) {
            int a = numbers[0];
            int b = numbers[1];
            int c = numbers[2];
            switch (letter) {
                case 's': return into.takeStage(a, b);
                case 'p': return into.takePart(a, b, c, numbers[3], numbers[4]);
                case 'h': return into.takeLet(a, b, c);
                case 'm': return into.takeMains(a, b, c);
                case 'c': return into.takeCost(a, b);
                case 'f': return into.takeWay(a, b, c);
                case 'e': return into.takeEar(a, b);
                case 'k': return into.takeYearly(a, b);
                case 'v': return into.takeVolts(a, b, c);
                default: return false;
            }
        }
    }

    private static final class Stage {
        private final int[] mains = new int[TONES];
        private int gain;
        private int bears;
    }

    private static final class Part {
        private final int[] lets = new int[TONES];
        private int stage;
        private int kind;
        private int age;
        private int trouble;
        private int warm;
        private int cost;
        private int volts;
        private int loss;

        private int voltsLess(int held) {
            return Math.max(0, held - held * loss / 100 - 1);
        }

        private int voltsAfter(int m) {
            int held = volts;
            for (int i = 0; i < m && held > 0; i++) {
                held = voltsLess(held);
            }
            return held;
        }

        /** The first minute below 50 volts: they only ever fall, so it stays below from then on. */
        private int minuteBelowShock() {
            int held = volts;
            int minute = 0;
            while (minute <= PLUG_MINUTES && held >= 50) {
                held = voltsLess(held);
                minute++;
            }
            return minute;
        }
    }

    /** A way back from the end. */
    private static final class Way {
        private int stage;
        private int tone;
        private int hundredths;
    }

    /** A set as a TEXT tells it. */
    private static final class Wireless {
        private final Stage[] stages = new Stage[STAGES_MOST];
        private final Part[] parts = new Part[PARTS_MOST];
        private final Way[] ways = new Way[WAYS_MOST];
        private final int[] ears = new int[TONES];
        private final int[] yearly = new int[KINDS];
        private int stageCount;
        private int partCount;
        private int wayCount;
        private int letCount;
        private int mainsCount;

        private Wireless() {
            for (int i = 0; i < STAGES_MOST; i++) {
                stages[i] = new Stage();
            }
            for (int i = 0; i < PARTS_MOST; i++) {
                parts[i] = new Part();
            }
            for (int i = 0; i < WAYS_MOST; i++) {
                ways[i] = new Way();
            }
            clear();
        }

        private void clear() {
            stageCount = 0;
            partCount = 0;
            wayCount = 0;
            letCount = 0;
            mainsCount = 0;
            for (int t = 0; t < TONES; t++) {
                ears[t] = 20;
            }
            for (int k = 0; k < KINDS; k++) {
                yearly[k] = 5;
            }
        }

        private boolean hasStage(int s) {
            return s >= 0 && s < stageCount;
        }

        private boolean hasPart(int p) {
            return p >= 0 && p < partCount;
        }

        private boolean hasState(int state) {
            return state >= 0 && state < 1 << partCount;
        }

        private boolean hasAsk(int kind, int of) {
            return within(kind, LISTEN, MEASURE) && of >= 0 && of < asksOf(kind);
        }

        private int asksOf(int kind) {
            if (kind == LISTEN) {
                return 1;
            }
            return kind == ACROSS ? partCount : stageCount;
        }

        private boolean takeStage(int gain, int bears) {
            if (stageCount >= STAGES_MOST || !within(gain, 1, 50) || !within(bears, 1, 99)) {
                return false;
            }
            Stage stage = stages[stageCount];
            stage.gain = gain;
            stage.bears = bears;
            for (int t = 0; t < TONES; t++) {
                stage.mains[t] = 0;
            }
            stageCount++;
            return true;
        }

        private boolean takePart(int stage, int kind, int age, int trouble, int warm) {
            if (partCount >= PARTS_MOST || !hasStage(stage) || !within(kind, 0, KINDS - 1)
                    || !within(age, 0, 99) || !within(trouble, 0, 9) || !within(warm, 0, WARM)) {
                return false;
            }
            Part part = parts[partCount];
            part.stage = stage;
            part.kind = kind;
            part.age = age;
            part.trouble = trouble;
            part.warm = warm;
            part.cost = 10;
            part.volts = 0;
            part.loss = 1;
            for (int t = 0; t < TONES; t++) {
                part.lets[t] = 0;
            }
            partCount++;
            return true;
        }

        private boolean takeLet(int p, int tone, int v) {
            if (letCount >= LETS_MOST || !hasPart(p) || !isTone(tone) || !within(v, -50, 50)) {
                return false;
            }
            parts[p].lets[tone] += v;
            letCount++;
            return true;
        }

        private boolean takeMains(int s, int tone, int v) {
            if (mainsCount >= MAINS_MOST || !hasStage(s) || !isTone(tone) || !within(v, -50, 50)) {
                return false;
            }
            stages[s].mains[tone] += v;
            mainsCount++;
            return true;
        }

        private boolean takeCost(int p, int cost) {
            if (!hasPart(p) || !within(cost, 1, 99)) {
                return false;
            }
            parts[p].cost = cost;
            return true;
        }

        private boolean takeWay(int s, int tone, int hundredths) {
            if (wayCount >= WAYS_MOST || !hasStage(s) || !isTone(tone) || !within(hundredths, -200, 200)) {
                return false;
            }
            Way way = ways[wayCount];
            way.stage = s;
            way.tone = tone;
            way.hundredths = hundredths;
            wayCount++;
            return true;
        }

        private boolean takeEar(int tone, int v) {
            if (!isTone(tone) || !within(v, 0, 999)) {
                return false;
            }
            ears[tone] = v;
            return true;
        }

        private boolean takeYearly(int kind, int q) {
            if (!within(kind, 0, KINDS - 1) || !within(q, 0, 50)) {
                return false;
            }
            yearly[kind] = q;
            return true;
        }

        private boolean takeVolts(int p, int v, int loss) {
            if (!hasPart(p) || !within(v, 0, 900) || !within(loss, 1, 99)) {
                return false;
            }
            parts[p].volts = v;
            parts[p].loss = loss;
            return true;
        }

        private int riskOf(int kind, int of) {
            if (kind == OUT) {
                return someBearsTooMuch(of) ? 1 : 0;
            }
            if (kind == FINGER || kind == MEASURE) {
                return someHoldsMuch(of) ? 1 : 0;
            }
            return 0;
        }

        private boolean someBearsTooMuch(int out) {
            int others = stageCount - 1;
            if (others <= 0 || !hasStage(out)) {
                return false;
            }
            int share = stages[out].gain / others;
            for (int s = 0; s < stageCount; s++) {
                if (s != out && stages[s].gain + share > stages[s].bears) {
                    return true;
                }
            }
            return false;
        }

        private boolean someHoldsMuch(int stage) {
            for (int p = 0; p < partCount; p++) {
                if (parts[p].stage == stage && parts[p].volts >= 300) {
                    return true;
                }
            }
            return false;
        }

        private int minuteOfNoShock() {
            int last = 0;
            for (int p = 0; p < partCount; p++) {
                last = Math.max(last, parts[p].minuteBelowShock());
            }
            return last <= PLUG_MINUTES ? last : NONE;
        }

        private long weightOf(int state) {
            long weight = 1;
            for (int p = 0; p < partCount; p++) {
                int trouble = parts[p].trouble;
                weight *= (state & 1 << p) != 0 ? trouble : 10 - trouble;
            }
            return weight;
        }

        private int costOf(int state) {
            int cost = 0;
            for (int p = 0; p < partCount; p++) {
                if ((state & 1 << p) != 0) {
                    cost += parts[p].cost;
                }
            }
            return cost;
        }

        private int tonesHowling() {
            int tones = 0;
            for (int i = 0; i < wayCount; i++) {
                if (bringsItsOwn(ways[i])) {
                    tones |= 1 << ways[i].tone;
                }
            }
            return tones;
        }

        private boolean bringsItsOwn(Way way) {
            long brought = way.hundredths;
            long own = 100;
            for (int s = way.stage; s < stageCount; s++) {
                brought *= stages[s].gain;
                own *= 10;
            }
            return brought >= own;
        }

        private int goneOf(int p, int years) {
            if (!hasPart(p) || !within(parts[p].kind, 0, KINDS - 1)) {
                return 0;
            }
            int left = 1000000;
            int age = parts[p].age;
            int q = yearly[parts[p].kind];
            for (int y = 0; y < years; y++) {
                left -= left * Math.min(999, q * age / 10) / 1000;
                age++;
            }
            return 1000000 - left;
        }
    }

    /** Where a set is listened to: INS and ENDS as last played. */
    private static final class Bench {
        private final int[][] ins = new int[STAGES_MOST][TONES];
        private final int[] ends = new int[TONES];

        /** The BOTTLE of STAGE out is out, a finger is on STAGE finger; NOWHERE for none. */
        private void play(Wireless set, int state, int m, int out, int finger) {
            comeIn(set, state, m);
            if (set.hasStage(finger)) {
                ins[finger][0] += 100;
            }
            for (int t = 0; t < TONES; t++) {
                int handed = 0;
                for (int s = 0; s < set.stageCount; s++) {
                    ins[s][t] += handed;
                    handed = s == out ? 0 : ins[s][t] * set.stages[s].gain / 10;
                }
                ends[t] = handed;
            }
        }

        private void comeIn(Wireless set, int state, int m) {
            for (int s = 0; s < set.stageCount; s++) {
                for (int t = 0; t < TONES; t++) {
                    ins[s][t] = set.stages[s].mains[t];
                }
            }
            for (int p = 0; p < set.partCount; p++) {
                Part part = set.parts[p];
                if ((state & 1 << p) != 0 && part.warm <= m && set.hasStage(part.stage)) {
                    for (int t = 0; t < TONES; t++) {
                        ins[part.stage][t] += part.lets[t];
                    }
                }
            }
        }

        private int tonesHeard(Wireless set) {
            int tones = 0;
            for (int t = 0; t < TONES; t++) {
                if (Math.abs(ends[t]) >= set.ears[t]) {
                    tones |= 1 << t;
                }
            }
            return tones;
        }

        private int loudness() {
            return magnitude(ends);
        }

        private static int magnitude(int[] tones) {
            int sum = 0;
            for (int t = 0; t < tones.length; t++) {
                sum += Math.abs(tones[t]);
            }
            return sum;
        }

        private int reply(Wireless set, int state, int kind, int of, int m) {
            int seen = kind == ACROSS ? acrossState(set, state, of) : state;
            play(set, seen, m, kind == OUT ? of : NOWHERE, kind == FINGER ? of : NOWHERE);
            if (kind == MEASURE && set.hasStage(of)) {
                return Math.min(ANSWER_HIGHEST, magnitude(ins[of]) / 20);
            }
            return tonesHeard(set);
        }

        private static int acrossState(Wireless set, int state, int p) {
            return set.hasPart(p) && set.parts[p].kind == TIN ? state & ~(1 << p) : state;
        }
    }

    /** ASKS and what they were answered, in their order. */
    private static final class Answers {
        private final int[] kinds = new int[ANSWERS_MOST];
        private final int[] ofs = new int[ANSWERS_MOST];
        private final int[] minutes = new int[ANSWERS_MOST];
        private final int[] replies = new int[ANSWERS_MOST];
        private int count;

        private void add(int kind, int of, int m, int a) {
            if (count < ANSWERS_MOST) {
                kinds[count] = kind;
                ofs[count] = of;
                minutes[count] = m;
                replies[count] = a;
                count++;
            }
        }

        private void copyFrom(Answers other) {
            count = 0;
            for (int i = 0; i < other.count; i++) {
                add(other.kinds[i], other.ofs[i], other.minutes[i], other.replies[i]);
            }
        }
    }

    /** The POSSIBLE STATES, from the lowest on, with their WEIGHTS. */
    private static final class Cases {
        private final int[] states = new int[CASES_MOST];
        private final long[] weights = new long[CASES_MOST];
        private int count;
        private long total;

        private void fill(Wireless set) {
            count = 0;
            total = 0;
            for (int state = 0; state < STATES_MOST && set.hasState(state); state++) {
                if (Integer.bitCount(state) <= TROUBLES_MOST) {
                    add(state, set.weightOf(state));
                }
            }
        }

        private void add(int state, long weight) {
            if (weight > 0 && count < CASES_MOST) {
                states[count] = state;
                weights[count] = weight;
                count++;
                total += weight;
            }
        }

        /** Leaves the STATES by which answer i would be so. */
        private void narrow(Wireless set, Bench bench, Answers answers, int i) {
            if (i < 0 || i >= answers.count) {
                return;
            }
            int before = count;
            count = 0;
            total = 0;
            for (int c = 0; c < before; c++) {
                int reply = bench.reply(set, states[c], answers.kinds[i], answers.ofs[i], answers.minutes[i]);
                if (reply == answers.replies[i]) {
                    add(states[c], weights[c]);
                }
            }
        }

        private long weightWith(int p) {
            long weight = 0;
            for (int c = 0; c < count; c++) {
                if ((states[c] & 1 << p) != 0) {
                    weight += weights[c];
                }
            }
            return weight;
        }

        private int heaviest() {
            int state = NONE;
            long most = 0;
            for (int c = 0; c < count; c++) {
                if (weights[c] > most) {
                    most = weights[c];
                    state = states[c];
                }
            }
            return state;
        }
    }

    /** Finds the NEXT ASK. */
    private static final class Search {
        private final long[] byReply = new long[ANSWER_HIGHEST + 1];
        private int kind;
        private int of;
        private long weight;
        private int danger;

        /** KINDS and what they are of go upwards, so a later ASK must be better, not as good. */
        private void find(Wireless set, Bench bench, Cases cases, int m) {
            kind = NONE;
            for (int k = LISTEN; k <= MEASURE; k++) {
                for (int o = 0; o < set.asksOf(k); o++) {
                    long worst = worstOf(set, bench, cases, k, o, m);
                    int risked = set.riskOf(k, o);
                    if (kind == NONE || isBetter(k, worst, risked)) {
                        kind = k;
                        of = o;
                        weight = worst;
                        danger = risked;
                    }
                }
            }
        }

        private boolean isBetter(int k, long worst, int risked) {
            if (worst != weight) {
                return worst < weight;
            }
            if (risked != danger) {
                return risked < danger;
            }
            return minutesOf(k) < minutesOf(kind);
        }

        private static int minutesOf(int k) {
            return k >= 0 && k < MINUTES.length ? MINUTES[k] : 0;
        }

        private long worstOf(Wireless set, Bench bench, Cases cases, int k, int o, int m) {
            for (int a = 0; a <= ANSWER_HIGHEST; a++) {
                byReply[a] = 0;
            }
            long worst = 0;
            for (int c = 0; c < cases.count; c++) {
                int reply = bench.reply(set, cases.states[c], k, o, m);
                if (within(reply, 0, ANSWER_HIGHEST)) {
                    byReply[reply] += cases.weights[c];
                    worst = Math.max(worst, byReply[reply]);
                }
            }
            return worst;
        }
    }

    /** What to change: at once for told odds, or one after the other. */
    private static final class Plan {
        private final boolean[] quiet = new boolean[STATES_MOST];
        /** The least sum for the rest of a row whose PARTS so far are the index. */
        private final long[] sums = new long[STATES_MOST];
        private int firstPart;

        /** A CHANGED STATE is never of more PARTS than it was, so those of two are enough. */
        private void learn(Wireless set, Bench bench) {
            for (int state = 0; state < STATES_MOST && set.hasState(state); state++) {
                if (Integer.bitCount(state) <= TROUBLES_MOST) {
                    bench.play(set, state, WARM, NOWHERE, NOWHERE);
                    quiet[state] = bench.tonesHeard(set) == 0;
                }
            }
        }

        private long noisyWeight(Cases cases, int changed) {
            long noisy = 0;
            for (int c = 0; c < cases.count; c++) {
                int state = cases.states[c] & ~changed;
                if (state >= 0 && state < STATES_MOST && !quiet[state]) {
                    noisy += cases.weights[c];
                }
            }
            return noisy;
        }

        private int cheapest(Wireless set, Cases cases, int q) {
            int best = NONE;
            int least = 0;
            for (int parts = 0; parts < STATES_MOST && set.hasState(parts); parts++) {
                int cost = set.costOf(parts);
                if ((best == NONE || cost < least)
                        && 100 * (cases.total - noisyWeight(cases, parts)) >= q * cases.total) {
                    best = parts;
                    least = cost;
                }
            }
            return best;
        }

        private void row(Wireless set, Cases cases) {
            int all = Math.min(STATES_MOST, 1 << set.partCount) - 1;
            for (int changed = all; changed >= 0; changed--) {
                long noisy = noisyWeight(cases, changed);
                sums[changed] = 0;
                firstPart = NONE;
                if (noisy != 0) {
                    goOn(set, changed, noisy);
                }
            }
        }

        /** The last one gone on from is the empty row, so its PART stays in firstPart. */
        private void goOn(Wireless set, int changed, long noisy) {
            for (int p = 0; p < set.partCount; p++) {
                int more = changed | 1 << p;
                if (more != changed && more < STATES_MOST) {
                    long sum = set.parts[p].cost * noisy + sums[more];
                    if (firstPart == NONE || sum < sums[changed]) {
                        sums[changed] = sum;
                        firstPart = p;
                    }
                }
            }
        }
    }
}
