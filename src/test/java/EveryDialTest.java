import java.util.ArrayList;
import java.util.List;

/** Every number on every dial of 1 to 400: what the class calculates is what plain search finds. */
public final class EveryDialTest extends Checks {

    private static int m;
    private static int units;
    private static boolean prime;
    private static final int[] orders = new int[400];

    public static void main(String[] args) {
        for (m = 1; m <= 400; m++) {
            searchDial();
            askDial();
            for (int a = 0; a < m; a++) {
                askNumber(a);
            }
        }
        end("every number on every dial is as search finds it");
    }

    private static int common(int a, int b) {
        int greatest = Math.max(a, b);
        for (int d = 1; d <= Math.min(a, b); d++) {
            greatest = a % d == 0 && b % d == 0 ? d : greatest;
        }
        return greatest;
    }

    private static void searchDial() {
        units = 0;
        int divisors = 0;
        for (int a = 0; a < m; a++) {
            boolean unit = common(a, m) == 1;
            units += unit ? 1 : 0;
            divisors += m % (a + 1) == 0 ? 1 : 0;
            orders[a] = unit ? searchOrder(a) : 0;
        }
        prime = divisors == 2;
    }

    private static int searchOrder(int a) {
        int power = a % m;
        int k = 1;
        while (power != 1 % m) {
            power = power * a % m;
            k++;
        }
        return k;
    }

    private static void askDial() {
        Clockhouse x = with(m);
        due(33, units, () -> x.units());
        due(41, prime, () -> x.isPrime());
        List<Integer> generators = new ArrayList<>();
        for (int a = 0; a < m; a++) {
            if (orders[a] == units) {
                generators.add(a);
            }
        }
        eachOf(35, generators, place -> x.generator(place));
    }

    private interface Place {
        int at(int place);
    }

    /** One by one, and NONE behind the last one. */
    private static void eachOf(int promise, List<Integer> all, Place call) {
        for (int i = 0; i < all.size(); i++) {
            int place = i;
            due(promise, all.get(place), () -> call.at(place));
        }
        due(promise, NONE, () -> call.at(all.size()));
    }

    private static void askNumber(int a) {
        // Below the dial, on it and above it by turns; the other number, and an exponent of both signs.
        int b = (a * 7 + 3) % m;
        int exponent = a % 2 == 0 ? -(a % 9) : a % 13;
        Clockhouse x = with(m, a + (a % 3 - 1) * m, b, 0, 0, 0, exponent);
        due(27, a, () -> x.mod(0));
        due(28, common(a, m), () -> x.gcd(0));
        due(34, orders[a], () -> x.order(0));
        due(36, orders[a] == units, () -> x.isGenerator(0));
        askSolutions(x, a, b);
        askRoots(x, a);
        askRow(x, a);
        int power = askInverse(x, a, exponent);
        due(60, true, () -> x.isSound());
        due(11, power, () -> x.roundPower(0, 5));
    }

    private static void askSolutions(Clockhouse x, int a, int b) {
        List<Integer> all = new ArrayList<>();
        for (int s = 0; s < m; s++) {
            if (a * s % m == b) {
                all.add(s);
            }
        }
        due(31, all.size(), () -> x.solutions(0, 1));
        eachOf(32, all, place -> x.solution(0, 1, place));
    }

    private static void askRoots(Clockhouse x, int a) {
        List<Integer> all = new ArrayList<>();
        for (int s = 0; s < m; s++) {
            if (s * s % m == a) {
                all.add(s);
            }
        }
        due(39, all.size(), () -> x.roots(0));
        eachOf(40, all, place -> x.root(0, place));
        due(42, prime && m > 2 ? symbol(a, m) : MISSED, () -> x.legendre(0));
        due(43, m % 2 == 0 ? MISSED : product(a), () -> x.jacobi(0));
    }

    private static int symbol(int a, int p) {
        if (a % p == 0) {
            return 0;
        }
        for (int s = 1; s < p; s++) {
            if (s * s % p == a % p) {
                return 1;
            }
        }
        return -1;
    }

    private static int product(int a) {
        int product = 1;
        int left = m;
        for (int p = 3; left > 1; p += 2) {
            while (left % p == 0) {
                product *= symbol(a, p);
                left /= p;
            }
        }
        return product;
    }

    private static void askRow(Clockhouse x, int a) {
        List<Integer> row = new ArrayList<>();
        StringBuilder text = new StringBuilder();
        int next = 1 % m;
        int sum = 0;
        while (!row.contains(next)) {
            text.append(row.isEmpty() ? "" : " ").append(next);
            row.add(next);
            sum += next;
            next = next * a % m;
        }
        int tail = row.indexOf(next);
        int total = sum;
        due(37, text.toString(), () -> x.powers(0));
        due(38, row.size(), () -> x.ofPowers(0, 0));
        due(38, tail, () -> x.ofPowers(0, 1));
        due(38, row.size() - tail, () -> x.ofPowers(0, 2));
        due(38, total, () -> x.ofPowers(0, 3));
    }

    /** Tells the POWER by that exponent. */
    private static int askInverse(Clockhouse x, int a, int exponent) {
        int inverse = MISSED;
        for (int s = 0; s < m && inverse == MISSED; s++) {
            inverse = a * s % m == 1 % m ? s : MISSED;
        }
        int found = inverse;
        due(30, found, () -> x.inverse(0));
        int power = 1 % m;
        for (int i = 0; i < Math.abs(exponent); i++) {
            power = exponent < 0 && inverse == MISSED ? MISSED : power * (exponent < 0 ? inverse : a) % m;
        }
        int answer = power;
        due(29, answer, () -> x.power(0, 5));
        return answer;
    }
}
