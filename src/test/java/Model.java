import java.math.BigInteger;
import java.util.ArrayList;
import java.util.HashMap;
import java.util.List;
import java.util.Map;
import java.util.TreeMap;
import java.util.regex.Pattern;

/**
 * The document once more, slowly: nothing is remembered but THE TEXT, what is
 * LAID (as ITEMS) and what is ANSWERED; each call works all out from there, by
 * other ways than HummingSet. Methods bear the names of the face, so that
 * ModelTest can call both alike.
 */
final class Model {
    private static final int BAD = -1, NO = -2, FULL = -3, NONE = -4;
    private static final Pattern ITEM = Pattern.compile("[sphmcfekv]-?[0-9]{1,3}(,-?[0-9]{1,3})*");
    private static final Pattern MINUS_NOUGHT = Pattern.compile(".*-0+(,.*)?");
    private static final Map<Character, String> RANGES = Map.of(
            's', "1 50 1 99", 'p', "S S 0 4 0 99 0 9 0 30", 'h', "P P 0 2 -50 50", 'm', "S S 0 2 -50 50",
            'c', "P P 1 99", 'f', "S S 0 2 -200 200", 'e', "0 2 0 999", 'k', "0 4 0 50", 'v', "P P 0 900 1 99");
    private static final Map<Character, Integer> MOST = Map.of('s', 6, 'p', 8, 'h', 16, 'm', 6, 'f', 6);

    private record Item(char letter, int[] n) {
    }

    private record Answer(int kind, int of, int m, int a) {
    }

    private String text = "";
    private List<Item> laid = new ArrayList<>();
    private List<Answer> answered = new ArrayList<>();
    private final List<List<Answer>> kept = new ArrayList<>();

    Model() {
        readInto(laid, "s10,99;p0,0,0,5,0;h0,0,30;");
    }

    // ---- sets

    int write(int n, long v) {
        if (n < 1 || n > 8) {
            return BAD;
        }
        if (text.length() + n > 400) {
            return FULL;
        }
        byte[] all = java.nio.ByteBuffer.allocate(8).putLong(v).array();
        StringBuilder more = new StringBuilder(text);
        for (int i = 8 - n; i < 8; i++) {
            more.append((char) (all[i] & 255));
        }
        text = more.toString();
        return text.length();
    }

    int wipe() {
        int before = text.length();
        text = "";
        return before;
    }

    int fault() {
        return readInto(new ArrayList<>(), text);
    }

    int lay() {
        List<Item> read = new ArrayList<>();
        if (readInto(read, text) != NONE || many(read, 's') == 0 || many(read, 'p') == 0) {
            return NO;
        }
        laid = read;
        answered = new ArrayList<>();
        kept.clear();
        return parts();
    }

    private static int readInto(List<Item> items, String text) {
        int start = 0;
        while (start < text.length()) {
            int end = text.indexOf(';', start);
            if (end < 0 || !takeItem(items, text.substring(start, end))) {
                return start;
            }
            start = end + 1;
        }
        return NONE;
    }

    private static boolean takeItem(List<Item> items, String item) {
        if (!ITEM.matcher(item).matches() || MINUS_NOUGHT.matcher(item).matches()) {
            return false;
        }
        char letter = item.charAt(0);
        String[] told = item.substring(1).split(",");
        String[] range = RANGES.get(letter).replace("S S", "0 " + (many(items, 's') - 1))
                .replace("P P", "0 " + (many(items, 'p') - 1)).split(" ");
        if (2 * told.length != range.length || many(items, letter) >= MOST.getOrDefault(letter, 999)) {
            return false;
        }
        int[] n = new int[told.length];
        for (int i = 0; i < n.length; i++) {
            n[i] = Integer.parseInt(told[i]);
            if (n[i] < Integer.parseInt(range[2 * i]) || n[i] > Integer.parseInt(range[2 * i + 1])) {
                return false;
            }
        }
        items.add(new Item(letter, n));
        return true;
    }

    private static int many(List<Item> items, char letter) {
        return (int) items.stream().filter(i -> i.letter == letter).count();
    }

    private int stages() {
        return many(laid, 's');
    }

    private int parts() {
        return many(laid, 'p');
    }

    private int[] nth(char letter, int i) {
        return laid.stream().filter(x -> x.letter == letter).skip(i).findFirst().orElseThrow().n;
    }

    /** The last ITEM of a letter for a first number, or what stands without. */
    private int[] last(char letter, int of, int... without) {
        return laid.stream().filter(x -> x.letter == letter && x.n[0] == of).map(Item::n)
                .reduce((a, b) -> b).orElse(without);
    }

    private int cost(int p) {
        return last('c', p, p, 10)[1];
    }

    int part(int p, int what) {
        if (p < 0 || p >= parts() || what < 0 || what > 5) {
            return BAD;
        }
        return what == 5 ? cost(p) : nth('p', p)[what];
    }

    // ---- what is heard

    private boolean isState(int state) {
        return state >= 0 && state < Math.pow(2, parts());
    }

    private static boolean in(int x, int from, int to) {
        return x >= from && x <= to;
    }

    private boolean isAsk(int kind, int of) {
        return kind == 0 && of == 0 || (kind == 1 || kind == 2 || kind == 4) && in(of, 0, stages() - 1)
                || kind == 3 && in(of, 0, parts() - 1);
    }

    private static boolean inTrouble(int state, int p) {
        return (state >> p) % 2 == 1;
    }

    /** IN of a STAGE, from what the STAGE behind hands on. */
    private int inOf(int state, int stage, int tone, int m, int out, int finger) {
        int sum = stage == 0 ? 0 : handedOn(state, stage - 1, tone, m, out, finger);
        for (Item item : laid) {
            if (item.letter == 'm' && item.n[0] == stage && item.n[1] == tone) {
                sum += item.n[2];
            }
            if (item.letter == 'h' && item.n[1] == tone && inTrouble(state, item.n[0])
                    && nth('p', item.n[0])[0] == stage && nth('p', item.n[0])[4] <= m) {
                sum += item.n[2];
            }
        }
        return sum + (stage == finger && tone == 0 ? 100 : 0);
    }

    private int handedOn(int state, int stage, int tone, int m, int out, int finger) {
        return stage == out ? 0 : inOf(state, stage, tone, m, out, finger) * nth('s', stage)[0] / 10;
    }

    private int heardBits(int state, int m, int out, int finger) {
        int bits = 0;
        for (int t = 0; t < 3; t++) {
            if (Math.abs(handedOn(state, stages() - 1, t, m, out, finger)) >= last('e', t, t, 20)[1]) {
                bits += 1 << t;
            }
        }
        return bits;
    }

    private int loud(int state, int m) {
        int sum = 0;
        for (int t = 0; t < 3; t++) {
            sum += Math.abs(handedOn(state, stages() - 1, t, m, -1, -1));
        }
        return sum;
    }

    int hum(int state, int tone, int m) {
        if (!isState(state) || !in(tone, 0, 2) || !in(m, 0, 30)) {
            return Integer.MIN_VALUE;
        }
        return handedOn(state, stages() - 1, tone, m, -1, -1);
    }

    int in(int state, int stage, int tone, int m) {
        if (!isState(state) || !in(stage, 0, stages() - 1) || !in(tone, 0, 2) || !in(m, 0, 30)) {
            return Integer.MIN_VALUE;
        }
        return inOf(state, stage, tone, m, -1, -1);
    }

    int heard(int state, int m, int what) {
        if (!isState(state) || !in(m, 0, 30) || !in(what, 0, 1)) {
            return BAD;
        }
        return what == 0 ? heardBits(state, m, -1, -1) : loud(state, m);
    }

    int ask(int state, int kind, int of, int m) {
        if (!isState(state) || !isAsk(kind, of) || !in(m, 0, 30)) {
            return BAD;
        }
        if (kind == 4) {
            int sum = 0;
            for (int t = 0; t < 3; t++) {
                sum += Math.abs(inOf(state, of, t, m, -1, -1));
            }
            return Math.min(9, sum / 20);
        }
        if (kind == 3 && nth('p', of)[1] == 0 && inTrouble(state, of)) {
            return heardBits(state - (1 << of), m, -1, -1);
        }
        return heardBits(state, m, kind == 1 ? of : -1, kind == 2 ? of : -1);
    }

    int risk(int kind, int of) {
        if (!isAsk(kind, of)) {
            return BAD;
        }
        boolean risks = false;
        for (int s = 0; kind == 1 && s < stages(); s++) {
            risks |= s != of && nth('s', s)[0] + nth('s', of)[0] / (stages() - 1) > nth('s', s)[1];
        }
        for (int p = 0; (kind == 2 || kind == 4) && p < parts(); p++) {
            risks |= nth('p', p)[0] == of && last('v', p, p, 0, 1)[1] >= 300;
        }
        return risks ? 1 : 0;
    }

    int volts(int p, int m) {
        if (!in(p, 0, parts() - 1) || !in(m, 0, 999)) {
            return BAD;
        }
        int[] told = last('v', p, p, 0, 1);
        int v = told[1];
        for (int i = 0; i < m; i++) {
            v = v - v * told[2] / 100 - 1;
            v = v < 0 ? 0 : v;
        }
        return v;
    }

    int safe() {
        for (int m = 0; m <= 999; m++) {
            boolean any = false;
            for (int p = 0; p < parts(); p++) {
                any |= volts(p, m) >= 50;
            }
            if (!any) {
                return m;
            }
        }
        return NONE;
    }

    // ---- odds

    int answer(int kind, int of, int m, int a) {
        if (!isAsk(kind, of) || !in(m, 0, 30) || !in(a, 0, 9)) {
            return BAD;
        }
        if (answered.size() == 10) {
            return FULL;
        }
        answered.add(new Answer(kind, of, m, a));
        return answered.size();
    }

    int forget() {
        int before = answered.size();
        answered = new ArrayList<>();
        return before;
    }

    private Map<Integer, Long> possibleStates() {
        Map<Integer, Long> found = new TreeMap<>();
        for (int i = 0; i < parts(); i++) {
            for (int j = 0; j < parts(); j++) {
                consider(found, 0);
                consider(found, 1 << i);
                consider(found, 1 << i | 1 << j);
            }
        }
        return found;
    }

    private void consider(Map<Integer, Long> found, int state) {
        long weight = 1;
        for (int p = 0; p < parts(); p++) {
            int c = nth('p', p)[3];
            weight *= inTrouble(state, p) ? c : 10 - c;
        }
        boolean so = weight > 0 && !found.containsKey(state);
        for (int i = 0; so && i < answered.size(); i++) {
            Answer x = answered.get(i);
            so = ask(state, x.kind, x.of, x.m) == x.a;
        }
        if (so) {
            found.put(state, weight);
        }
    }

    private static long sum(Map<Integer, Long> weights) {
        return weights.values().stream().mapToLong(x -> x).sum();
    }

    long possible(int what) {
        if (!in(what, 0, 1)) {
            return BAD;
        }
        return what == 0 ? possibleStates().size() : sum(possibleStates());
    }

    long odds(int p, int part) {
        if (!in(p, 0, parts() - 1) || !in(part, 0, 1)) {
            return BAD;
        }
        Map<Integer, Long> states = possibleStates();
        if (states.isEmpty()) {
            return NONE;
        }
        BigInteger below = BigInteger.valueOf(sum(states));
        states.keySet().removeIf(s -> !inTrouble(s, p));
        BigInteger above = BigInteger.valueOf(sum(states));
        return (part == 0 ? above : below).divide(above.gcd(below)).longValueExact();
    }

    int likeliest() {
        Map<Integer, Long> states = possibleStates();
        long most = states.values().stream().mapToLong(x -> x).max().orElse(0);
        return states.entrySet().stream().filter(e -> e.getValue() == most).mapToInt(Map.Entry::getKey)
                .min().orElse(NONE);
    }

    long next(int m, int what) {
        if (!in(m, 0, 30) || !in(what, 0, 2)) {
            return BAD;
        }
        Map<Integer, Long> states = possibleStates();
        int[] minutes = {1, 3, 2, 4, 5};
        List<long[]> asks = new ArrayList<>();
        for (int kind = 0; kind < 5; kind++) {
            for (int of = 0; isAsk(kind, of); of++) {
                Map<Integer, Long> left = new HashMap<>();
                for (Map.Entry<Integer, Long> e : states.entrySet()) {
                    left.merge(ask(e.getKey(), kind, of, m), e.getValue(), Long::sum);
                }
                long worst = left.values().stream().mapToLong(x -> x).max().orElse(0);
                asks.add(new long[] {worst, risk(kind, of), minutes[kind], kind, of});
            }
        }
        asks.sort(java.util.Arrays::compare);
        long[] best = asks.get(0);
        return states.isEmpty() ? NONE : what == 0 ? best[3] : what == 1 ? best[4] : best[0];
    }

    private boolean isQuiet(int state) {
        return heardBits(state, 30, -1, -1) == 0;
    }

    private static int without(int state, int changed) {
        return (state | changed) - changed;
    }

    private long quietWeight(Map<Integer, Long> states, int changed, Map<Integer, Boolean> known) {
        long weight = 0;
        for (Map.Entry<Integer, Long> e : states.entrySet()) {
            if (known.computeIfAbsent(without(e.getKey(), changed), this::isQuiet)) {
                weight += e.getValue();
            }
        }
        return weight;
    }

    private int setCost(int set) {
        int sum = 0;
        for (int p = 0; p < parts(); p++) {
            sum += inTrouble(set, p) ? cost(p) : 0;
        }
        return sum;
    }

    int change(int q, int what) {
        if (!in(q, 0, 100) || !in(what, 0, 1)) {
            return BAD;
        }
        Map<Integer, Long> states = possibleStates();
        Map<Integer, Boolean> known = new HashMap<>();
        List<int[]> enough = new ArrayList<>();
        for (int set = 0; isState(set); set++) {
            if (quietWeight(states, set, known) * 100 >= sum(states) * q) {
                enough.add(new int[] {setCost(set), set});
            }
        }
        enough.sort(java.util.Arrays::compare);
        return states.isEmpty() || enough.isEmpty() ? NONE : enough.get(0)[1 - what];
    }

    /** Every row there is, without a table: the least sum behind it, the first PART of that in first[0]. */
    private long leastRow(Map<Integer, Long> states, int changed, Map<Integer, Boolean> known, int[] first) {
        long loud = sum(states) - quietWeight(states, changed, known);
        long least = -1;
        for (int p = 0; loud > 0 && p < parts(); p++) {
            if (!inTrouble(changed, p)) {
                long row = cost(p) * loud + leastRow(states, changed + (1 << p), known, new int[1]);
                if (least < 0 || row < least) {
                    least = row;
                    first[0] = p;
                }
            }
        }
        return Math.max(0, least);
    }

    long oneByOne(int what) {
        if (!in(what, 0, 1)) {
            return BAD;
        }
        int[] first = {NONE};
        long least = leastRow(possibleStates(), 0, new HashMap<>(), first);
        return what == 0 ? least : first[0];
    }

    // ---- beside

    int louder(int state) {
        if (!isState(state)) {
            return BAD;
        }
        int bits = 0;
        for (int p = 0; p < parts(); p++) {
            bits += loud(without(state, 1 << p), 30) > loud(state, 30) ? 1 << p : 0;
        }
        return bits;
    }

    int howls() {
        int bits = 0;
        for (Item item : laid) {
            if (item.letter == 'f') {
                BigInteger brought = BigInteger.valueOf(item.n[2]);
                for (int s = stages() - 1; s >= item.n[0]; s--) {
                    brought = brought.multiply(BigInteger.valueOf(nth('s', s)[0]));
                }
                BigInteger own = BigInteger.TEN.pow(2 + stages() - item.n[0]);
                bits |= brought.compareTo(own) >= 0 ? 1 << item.n[1] : 0;
            }
        }
        return bits;
    }

    int goes(int p, int y) {
        if (!in(p, 0, parts() - 1) || !in(y, 1, 50)) {
            return BAD;
        }
        int[] told = nth('p', p);
        int q = last('k', told[1], told[1], 5)[1];
        long gone = 0;
        for (int i = 0; i < y; i++) {
            long ofThousand = Math.min(999, q * (told[2] + i) / 10);
            gone += (1000000 - gone) * ofThousand / 1000;
        }
        return (int) gone;
    }

    int nextToGo(int y) {
        if (!in(y, 1, 50)) {
            return BAD;
        }
        int best = parts() - 1;
        for (int p = parts() - 1; p >= 0; p--) {
            best = goes(p, y) >= goes(best, y) ? p : best;
        }
        return best;
    }

    int set(int z) {
        if (!in(z, 0, 9999)) {
            return BAD;
        }
        int state = 0;
        for (int i = 0; i < parts(); i++) {
            BigInteger x = BigInteger.valueOf(7919).multiply(BigInteger.valueOf(z))
                    .add(BigInteger.valueOf(6151L * i + 1));
            int draw = x.multiply(x).mod(BigInteger.valueOf(65521)).mod(BigInteger.TEN).intValue();
            state += draw < nth('p', i)[3] ? 1 << i : 0;
        }
        return state;
    }

    int keep() {
        if (kept.size() == 2) {
            return FULL;
        }
        kept.add(new ArrayList<>(answered));
        return kept.size();
    }

    int back() {
        if (kept.isEmpty()) {
            return NO;
        }
        answered = kept.remove(kept.size() - 1);
        return kept.size();
    }

    int count(int what) {
        return switch (what) {
            case 0 -> stages();
            case 1 -> parts();
            case 2 -> text.length();
            case 3 -> answered.size();
            case 4 -> kept.size();
            default -> BAD;
        };
    }
}
