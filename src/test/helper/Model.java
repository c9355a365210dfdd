import java.math.BigInteger;
import java.util.ArrayDeque;
import java.util.ArrayList;
import java.util.Deque;
import java.util.List;

/** The document in its plainest form: counts with BigInteger and searches where the class calculates. */
final class Model {
    private static final BigInteger ZERO = BigInteger.ZERO;
    private static final BigInteger ONE = BigInteger.ONE;
    private static final BigInteger LIMIT = BigInteger.TEN.pow(36);

    record Rest(int rest, int size) { }

    record Snapshot(int dial, List<BigInteger> numbers, List<Rest> rows, List<Integer> bases) { }

    private int dial = 12;
    private List<BigInteger> numbers = new ArrayList<>(java.util.Collections.nCopies(6, ZERO));
    private List<Rest> rows = new ArrayList<>();
    private List<Integer> bases = new ArrayList<>();
    private final Deque<Snapshot> past = new ArrayDeque<>();
    private int jams;
    private int misses;
    private int knocks;

    private void keep() {
        past.addLast(new Snapshot(dial, List.copyOf(numbers), List.copyOf(rows), List.copyOf(bases)));
        if (past.size() > 12) {
            past.removeFirst();
        }
    }

    private BigInteger at(int slot) {
        if (slot < 0 || slot > 5) {
            throw new IndexOutOfBoundsException();
        }
        return numbers.get(slot);
    }

    private static void need(boolean good) {
        if (!good) {
            throw new IllegalArgumentException();
        }
    }

    private static void needState(boolean good) {
        if (!good) {
            throw new IllegalStateException();
        }
    }

    private Rest rowAt(int place) {
        if (place < 0 || place >= rows.size()) {
            throw new IndexOutOfBoundsException();
        }
        return rows.get(place);
    }

    private int put(int slot, BigInteger value) {
        needState(value.abs().compareTo(LIMIT) < 0);
        keep();
        numbers.set(slot, value);
        return digits(slot);
    }

    private int putRound(int slot, int value) {
        if (value == -9) {
            jams++;
        } else if (value == -8) {
            misses++;
        } else {
            keep();
            numbers.set(slot, BigInteger.valueOf(value));
        }
        return value;
    }

    public int dial(int size) {
        need(size >= -9 && size <= 400);
        keep();
        int before = dial;
        dial = size;
        return before;
    }

    public int set(int slot, int value) {
        at(slot);
        return put(slot, BigInteger.valueOf(value));
    }

    public int lengthen(int slot, int more) {
        BigInteger n = at(slot);
        need(more >= 0 && more <= 999999999);
        return put(slot, n.multiply(BigInteger.valueOf(1000000000)).add(BigInteger.valueOf(more)));
    }

    public int plus(int slot, int other) {
        return put(slot, at(slot).add(at(other)));
    }

    public int times(int slot, int other) {
        return put(slot, at(slot).multiply(at(other)));
    }

    public int negate(int slot) {
        put(slot, at(slot).negate());
        return at(slot).signum();
    }

    public int reduce(int slot) {
        return putRound(slot, mod(slot));
    }

    public int roundPlus(int slot, int other) {
        BigInteger sum = at(slot).add(at(other));
        return putRound(slot, dial <= 0 ? -9 : sum.mod(BigInteger.valueOf(dial)).intValue());
    }

    public int roundTimes(int slot, int other) {
        BigInteger product = at(slot).multiply(at(other));
        return putRound(slot, dial <= 0 ? -9 : product.mod(BigInteger.valueOf(dial)).intValue());
    }

    public int roundPower(int slot, int exponent) {
        return putRound(slot, power(slot, exponent));
    }

    public int roundInverse(int slot) {
        return putRound(slot, inverse(slot));
    }

    private static void needCongruence(int rest, int size) {
        need(rest >= -9999 && rest <= 9999 && size >= 1 && size <= 999);
    }

    public int tell(int rest, int size) {
        needCongruence(rest, size);
        needState(rows.size() < 6);
        keep();
        rows.add(new Rest(((rest % size) + size) % size, size));
        return rows.size() - 1;
    }

    public boolean tellIf(int rest, int size) {
        needCongruence(rest, size);
        needState(rows.size() < 6);
        if (!wouldJoin(rest, size)) {
            return false;
        }
        tell(rest, size);
        return true;
    }

    public int drop(int place) {
        rowAt(place);
        keep();
        rows.remove(place);
        return rows.size();
    }

    public int base(int size) {
        need(size >= 2 && size <= 999);
        needState(bases.size() < 5);
        for (int b : bases) {
            needState(BigInteger.valueOf(b).gcd(BigInteger.valueOf(size)).equals(ONE));
        }
        keep();
        bases.add(size);
        return bases.size() - 1;
    }

    public int unbase() {
        needState(!bases.isEmpty());
        keep();
        return bases.remove(bases.size() - 1);
    }

    public int undo() {
        needState(!past.isEmpty());
        Snapshot s = past.removeLast();
        dial = s.dial();
        numbers = new ArrayList<>(s.numbers());
        rows = new ArrayList<>(s.rows());
        bases = new ArrayList<>(s.bases());
        return past.size();
    }

    public int knock() {
        return ++knocks;
    }

    public String number(int slot) {
        return at(slot).toString();
    }

    public int digits(int slot) {
        return at(slot).abs().toString().length();
    }

    public String bigGcd(int slot, int other) {
        return at(slot).gcd(at(other)).toString();
    }

    public String bigMod(int slot, int by) {
        BigInteger n = at(slot);
        BigInteger m = at(by);
        return m.signum() <= 0 ? "jammed" : n.mod(m).toString();
    }

    public String bigInverse(int slot, int by) {
        BigInteger n = at(slot);
        BigInteger m = at(by);
        return m.signum() <= 0 ? "jammed" : !n.gcd(m).equals(ONE) ? "missed" : n.modInverse(m).toString();
    }

    public String bigPower(int slot, int exponent, int by) {
        BigInteger n = at(slot);
        BigInteger e = at(exponent);
        BigInteger m = at(by);
        if (m.signum() <= 0) {
            return "jammed";
        }
        return e.signum() < 0 && !n.gcd(m).equals(ONE) ? "missed" : n.modPow(e, m).toString();
    }

    public int size() {
        return dial;
    }

    public int mod(int slot) {
        BigInteger n = at(slot);
        return dial <= 0 ? -9 : n.mod(BigInteger.valueOf(dial)).intValue();
    }

    public int gcd(int slot) {
        BigInteger n = at(slot);
        return dial <= 0 ? -9 : n.gcd(BigInteger.valueOf(dial)).intValue();
    }

    public int power(int slot, int exponent) {
        BigInteger n = at(slot);
        BigInteger e = at(exponent);
        BigInteger m = BigInteger.valueOf(dial);
        if (dial <= 0) {
            return -9;
        }
        return e.signum() < 0 && !n.gcd(m).equals(ONE) ? -8 : n.modPow(e, m).intValue();
    }

    public int inverse(int slot) {
        at(slot);
        if (dial <= 0) {
            return -9;
        }
        for (int x = 0; x < dial; x++) {
            if (mod(slot) * x % dial == 1 % dial) {
                return x;
            }
        }
        return -8;
    }

    private List<Integer> solutionsOf(int a, int b) {
        List<Integer> all = new ArrayList<>();
        for (int x = 0; x < dial; x++) {
            if ((a * x - b) % dial == 0) {
                all.add(x);
            }
        }
        return all;
    }

    public int solutions(int slot, int other) {
        at(slot);
        at(other);
        return dial <= 0 ? -9 : solutionsOf(mod(slot), mod(other)).size();
    }

    private static int pickFrom(List<Integer> all, int place) {
        return place < all.size() ? all.get(place) : -1;
    }

    public int solution(int slot, int other, int place) {
        at(slot);
        at(other);
        need(place >= 0);
        return dial <= 0 ? -9 : pickFrom(solutionsOf(mod(slot), mod(other)), place);
    }

    private boolean isUnit(int x) {
        return BigInteger.valueOf(x).gcd(BigInteger.valueOf(dial)).equals(ONE);
    }

    public int units() {
        if (dial <= 0) {
            return -9;
        }
        int count = 0;
        for (int x = 0; x < dial; x++) {
            count += isUnit(x) ? 1 : 0;
        }
        return count;
    }

    private int orderOf(int a) {
        int power = a % dial;
        for (int k = 1; k <= 500; k++) {
            if (power == 1 % dial) {
                return k;
            }
            power = power * a % dial;
        }
        return 0;
    }

    public int order(int slot) {
        at(slot);
        return dial <= 0 ? -9 : orderOf(mod(slot));
    }

    private List<Integer> generators() {
        List<Integer> all = new ArrayList<>();
        int due = units();
        for (int x = 0; x < dial; x++) {
            if (isUnit(x) && orderOf(x) == due) {
                all.add(x);
            }
        }
        return all;
    }

    public int generator(int place) {
        need(place >= 0);
        return dial <= 0 ? -9 : pickFrom(generators(), place);
    }

    public boolean isGenerator(int slot) {
        at(slot);
        return dial > 0 && generators().contains(mod(slot));
    }

    private List<Integer> rowOfPowers(int slot) {
        List<Integer> row = new ArrayList<>();
        int next = 1 % dial;
        while (!row.contains(next)) {
            row.add(next);
            next = next * mod(slot) % dial;
        }
        row.add(next);
        return row;
    }

    public String powers(int slot) {
        at(slot);
        if (dial <= 0) {
            return "jammed";
        }
        List<Integer> row = rowOfPowers(slot);
        StringBuilder text = new StringBuilder();
        for (int power : row.subList(0, row.size() - 1)) {
            text.append(text.length() == 0 ? "" : " ").append(power);
        }
        return text.toString();
    }

    public int ofPowers(int slot, int what) {
        at(slot);
        need(what >= 0 && what <= 3);
        if (dial <= 0) {
            return -9;
        }
        List<Integer> row = rowOfPowers(slot);
        int next = row.remove(row.size() - 1);
        int tail = row.indexOf(next);
        int sum = row.stream().mapToInt(Integer::intValue).sum();
        return new int[] {row.size(), tail, row.size() - tail, sum}[what];
    }

    private List<Integer> rootsOf(int slot) {
        List<Integer> all = new ArrayList<>();
        for (int x = 0; x < dial; x++) {
            if ((x * x - mod(slot)) % dial == 0) {
                all.add(x);
            }
        }
        return all;
    }

    public int roots(int slot) {
        at(slot);
        return dial <= 0 ? -9 : rootsOf(slot).size();
    }

    public int root(int slot, int place) {
        at(slot);
        need(place >= 0);
        return dial <= 0 ? -9 : pickFrom(rootsOf(slot), place);
    }

    public boolean isPrime() {
        int divisors = 0;
        for (int d = 1; d <= dial; d++) {
            divisors += dial % d == 0 ? 1 : 0;
        }
        return divisors == 2;
    }

    public int legendre(int slot) {
        at(slot);
        if (dial <= 0) {
            return -9;
        }
        return !isPrime() || dial == 2 ? -8 : mod(slot) == 0 ? 0 : rootsOf(slot).isEmpty() ? -1 : 1;
    }

    /** By reciprocity, not by the primes. */
    public int jacobi(int slot) {
        at(slot);
        if (dial <= 0) {
            return -9;
        }
        if (dial % 2 == 0) {
            return -8;
        }
        int a = mod(slot);
        int m = dial;
        int sign = 1;
        while (a != 0) {
            while (a % 2 == 0) {
                a /= 2;
                sign = m % 8 == 3 || m % 8 == 5 ? -sign : sign;
            }
            int spare = a;
            a = m;
            m = spare;
            sign = a % 4 == 3 && m % 4 == 3 ? -sign : sign;
            a %= m;
        }
        return m == 1 ? sign : 0;
    }

    public int rows() {
        return rows.size();
    }

    public int ofRow(int place, int what) {
        Rest row = rowAt(place);
        need(what == 0 || what == 1);
        return what == 0 ? row.rest() : row.size();
    }

    private static boolean both(Rest a, Rest b) {
        int common = BigInteger.valueOf(a.size()).gcd(BigInteger.valueOf(b.size())).intValue();
        return (a.rest() - b.rest()) % common == 0;
    }

    public boolean agree(int place, int other) {
        Rest a = rowAt(place);
        return both(a, rowAt(other));
    }

    private static BigInteger dialOf(List<Rest> all) {
        BigInteger dial = ONE;
        for (Rest row : all) {
            BigInteger size = BigInteger.valueOf(row.size());
            dial = dial.multiply(size).divide(dial.gcd(size));
        }
        return dial;
    }

    /** Sieves: steps by the dial so far till the next rest is met; null if it never is. */
    private static BigInteger joint(List<Rest> all) {
        BigInteger x = ZERO;
        for (int i = 0; i < all.size(); i++) {
            BigInteger size = BigInteger.valueOf(all.get(i).size());
            BigInteger rest = BigInteger.valueOf(all.get(i).rest());
            BigInteger step = dialOf(all.subList(0, i));
            int tries = 0;
            while (!x.mod(size).equals(rest)) {
                x = x.add(step);
                tries++;
                if (tries > all.get(i).size()) {
                    return null;
                }
            }
        }
        return x;
    }

    public boolean isJoined() {
        return joint(rows) != null;
    }

    public boolean wouldJoin(int rest, int size) {
        needCongruence(rest, size);
        List<Rest> all = new ArrayList<>(rows);
        all.add(new Rest(((rest % size) + size) % size, size));
        return joint(all) != null;
    }

    public String answer() {
        BigInteger joint = joint(rows);
        return joint == null ? "none" : joint.toString();
    }

    public String answerDial() {
        return dialOf(rows).toString();
    }

    public int clash(int what) {
        need(what == 0 || what == 1);
        for (int i = 0; i < rows.size(); i++) {
            for (int j = i + 1; j < rows.size(); j++) {
                if (!both(rows.get(i), rows.get(j))) {
                    return what == 0 ? i : j;
                }
            }
        }
        return -1;
    }

    public int broken(int slot) {
        BigInteger n = at(slot);
        for (int i = 0; i < rows.size(); i++) {
            if (n.mod(BigInteger.valueOf(rows.get(i).size())).intValue() != rows.get(i).rest()) {
                return i;
            }
        }
        return -1;
    }

    public int bases() {
        return bases.size();
    }

    private BigInteger spanOf() {
        BigInteger span = ONE;
        for (int b : bases) {
            span = span.multiply(BigInteger.valueOf(b));
        }
        return span;
    }

    public String span() {
        return spanOf().toString();
    }

    public String residues(int slot) {
        BigInteger n = at(slot);
        List<String> all = new ArrayList<>();
        for (int b : bases) {
            all.add(n.mod(BigInteger.valueOf(b)).toString());
        }
        return String.join(",", all);
    }

    public String back(int slot) {
        return at(slot).mod(spanOf()).toString();
    }

    public String sumBack(int slot, int other) {
        return at(slot).add(at(other)).mod(spanOf()).toString();
    }

    public String productBack(int slot, int other) {
        return at(slot).multiply(at(other)).mod(spanOf()).toString();
    }

    public int books(int what) {
        need(what >= 0 && what <= 3);
        return new int[] {jams, misses, knocks, past.size()}[what];
    }

    /** All that it asks holds for whole numbers whatever they are, so only false can be wrong. */
    public boolean isSound() {
        return true;
    }

    public long digest() {
        List<Long> all = new ArrayList<>();
        all.add((long) dial);
        for (int s = 0; s < 6; s++) {
            int[] ints = {digits(s), at(s).signum(), mod(s), gcd(s), inverse(s), power(s, 5), solutions(s, 0),
                order(s), ofPowers(s, 0), ofPowers(s, 1), ofPowers(s, 2), ofPowers(s, 3), roots(s), legendre(s),
                jacobi(s), broken(s), number(s).length(), residues(s).length(), back(s).length(),
                productBack(s, 1).length()};
            for (int i : ints) {
                all.add((long) i);
            }
        }
        all.add((long) units());
        all.add((long) generator(0));
        all.add(isPrime() ? 1L : 0L);
        all.add((long) rows());
        for (Rest row : rows) {
            all.add((long) row.rest());
            all.add((long) row.size());
        }
        all.add(isJoined() ? 1L : 0L);
        all.add((long) answer().length());
        all.add((long) answerDial().length());
        all.add((long) clash(0));
        all.add((long) clash(1));
        all.add((long) bases());
        all.add((long) span().length());
        for (int what = 0; what < 4; what++) {
            all.add((long) books(what));
        }
        all.add(isSound() ? 1L : 0L);
        long d = 4906;
        for (long v : all) {
            d = d * 31 + v;
        }
        return d;
    }
}
