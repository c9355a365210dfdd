import java.math.BigInteger;
import java.util.ArrayList;
import java.util.List;

/** The boundary cases of part 2 of the Terms and of the promises 8 to 12 and 26 to 43. */
public final class EdgesOfTheDialTest extends Checks {

    private static final int[] DIALS = {1, 2, 3, 4, 5, 8, 9, 12, 15, 16, 27, 64, 97, 256, 397, 398, 399, 400};
    private static final String[] NUMBERS = {"0", "1", "-1", "2", "-2", "3", "5", "12", "399", "400", "401", "-400",
        "2147483647", NINES, "-" + NINES};

    public static void main(String[] args) {
        reduced();
        roundSums();
        roundProducts();
        roundPowers();
        roundInverses();
        sizes();
        mods();
        gcds();
        powersAsked();
        exponents();
        inverses();
        solutionsCounted();
        solutionsByPlace();
        unitsCounted();
        orders();
        generatorsByPlace();
        generatorsKnown();
        generatorsOfAnotherDial();
        rowsOfPowers();
        partsOfRows();
        rootsCounted();
        rootsByPlace();
        primes();
        legendres();
        jacobis();
        jammedAsks();
        jammedAheadOfMissed();
        end("the edges of the dial hold");
    }

    private static Clockhouse at(int dial, String... numbers) {
        Clockhouse x = holding(numbers);
        x.dial(dial);
        return x;
    }

    private static int restOf(String number, int dial) {
        return new BigInteger(number).mod(BigInteger.valueOf(dial)).intValue();
    }

    /** Told JAMMED or MISSED, nothing is done but the counting, and it is no CHANGE. */
    private static void nothingDone(int due, Maker maker, Step step) {
        Clockhouse tried = maker.make();
        due(due, () -> step.on(tried));
        due(due == JAMMED ? 1 : 0, () -> tried.books(0));
        due(due == MISSED ? 1 : 0, () -> tried.books(1));
        sameButCounts(tried, maker.make());
    }

    private static void jammedJustToZero(Step step) {
        for (int dial : new int[] {-9, -8, -1, 0}) {
            nothingDone(JAMMED, () -> house(dial), step);
        }
        due(0, () -> step.on(house(1)));
    }

    private static void reduced() {
        says(8, "slot is not 0 to 5");
        slotEdges(Checks::house, "5:5", "3:3", (x, slot) -> x.reduce(slot) + ":" + x.number(slot));
        says(8, "Returns it then; JAMMED, if the DIAL is (nothing is done then).");
        jammedJustToZero(x -> x.reduce(1));
        says(8, "Makes a NUMBER what it is MOD the DIAL.");
        for (int dial : DIALS) {
            for (String number : NUMBERS) {
                int rest = restOf(number, dial);
                due(rest + ":" + rest, () -> {
                    Clockhouse x = at(dial, number);
                    return x.reduce(0) + ":" + x.number(0);
                });
            }
        }
    }

    private static void roundSums() {
        says(9, "slot or other is not 0 to 5");
        slotEdges(Checks::house, "11:11", "9:9", (x, slot) -> x.roundPlus(slot, 4) + ":" + x.number(slot));
        slotEdges(Checks::house, "11:11", "9:9", (x, slot) -> x.roundPlus(4, slot) + ":" + x.number(4));
        says(9, "Returns it then; JAMMED, if the DIAL is (nothing is done then).");
        jammedJustToZero(x -> x.roundPlus(0, 1));
        says(9, "`other`: a SLOT (it may be the same)");
        due(10, () -> at(12, "5").roundPlus(0, 0));
        due(10, () -> at(12, "-1").roundPlus(0, 0));
        says(9, "Makes the NUMBER of a SLOT the sum of it and that of another one, MOD the DIAL.");
        due(11, () -> at(12, "11", "0").roundPlus(0, 1));
        due(0, () -> at(12, "11", "1").roundPlus(0, 1));
        due(10, () -> at(12, "11", "11").roundPlus(0, 1));
        due(0, () -> at(12, "-12", "12").roundPlus(0, 1));
        due(11, () -> at(12, "-13", "12").roundPlus(0, 1));
        due(398, () -> at(400, "399", "399").roundPlus(0, 1));
        // The sum itself may have more than 36 digits.
        due(2 * restOf(NINES, 397) % 397, () -> at(397, NINES, NINES).roundPlus(0, 1));
    }

    private static void roundProducts() {
        says(10, "slot or other is not 0 to 5");
        slotEdges(Checks::house, "4:4", "0:0", (x, slot) -> x.roundTimes(slot, 2) + ":" + x.number(slot));
        slotEdges(Checks::house, "4:4", "0:0", (x, slot) -> x.roundTimes(2, slot) + ":" + x.number(2));
        says(10, "Returns it then; JAMMED, if the DIAL is (nothing is done then).");
        jammedJustToZero(x -> x.roundTimes(0, 1));
        says(10, "`other`: a SLOT (it may be the same)");
        due(1, () -> at(12, "5").roundTimes(0, 0));
        due(1, () -> at(400, "-1").roundTimes(0, 0));
        says(10, "MOD the DIAL (the product itself may have more than 36 digits).");
        BigInteger square = new BigInteger(NINES).pow(2);
        due(square.mod(BigInteger.valueOf(397)).intValue(), () -> at(397, NINES, NINES).roundTimes(0, 1));
        due(square.negate().mod(BigInteger.valueOf(397)).intValue(),
                () -> at(397, NINES, "-" + NINES).roundTimes(0, 1));
        due(1, () -> at(400, "399", "399").roundTimes(0, 1));
        due(0, () -> at(12, "0", NINES).roundTimes(0, 1));
        due(0, () -> at(12, "3", "4").roundTimes(0, 1));
        due(11, () -> at(12, "1", "-1").roundTimes(0, 1));
    }

    private static void roundPowers() {
        says(11, "slot or exponent is not 0 to 5");
        slotEdges(Checks::house, "1:1", "9:9", (x, slot) -> x.roundPower(slot, 2) + ":" + x.number(slot));
        slotEdges(Checks::house, "0:0", "-8:30", (x, slot) -> x.roundPower(4, slot) + ":" + x.number(4));
        says(11, "Returns it then; JAMMED, if the DIAL is, and MISSED, if the POWER is (nothing is done then).");
        jammedJustToZero(x -> x.roundPower(0, 1));
        nothingDone(MISSED, Checks::house, x -> x.roundPower(2, 1));
        nothingDone(MISSED, Checks::house, x -> x.roundPower(3, 5));
        nothingDone(MISSED, () -> house(2), x -> x.roundPower(2, 1));
        due(1, () -> house(2).roundPower(0, 1));
        says(11, "`exponent`: the SLOT with the exponent (it may be the same)");
        due(5, () -> at(12, "5").roundPower(0, 0));
        due(1, () -> at(12, "0").roundPower(0, 0));
        due(11, () -> at(12, "-1").roundPower(0, 0));
        says(11, "Makes the NUMBER of a SLOT the POWER of it by an exponent.");
        due("1:1", () -> {
            Clockhouse x = at(12, "30", "0");
            return x.roundPower(0, 1) + ":" + x.number(0);
        });
        due("6:6", () -> {
            Clockhouse x = at(12, "30", "1");
            return x.roundPower(0, 1) + ":" + x.number(0);
        });
    }

    private static void roundInverses() {
        says(12, "slot is not 0 to 5");
        slotEdges(Checks::house, "5:5", "-8:-9", (x, slot) -> x.roundInverse(slot) + ":" + x.number(slot));
        says(12, "Returns it then; JAMMED, if the DIAL is, and MISSED, if there is none (nothing is done then).");
        jammedJustToZero(x -> x.roundInverse(0));
        nothingDone(MISSED, Checks::house, x -> x.roundInverse(2));
        nothingDone(MISSED, Checks::house, x -> x.roundInverse(3));
        nothingDone(MISSED, () -> house(17), x -> x.roundInverse(0));
        due(1, () -> house(2).roundInverse(0));
        says(12, "Makes the NUMBER of a SLOT the INVERSE of it.");
        due("7:7", () -> {
            Clockhouse x = at(12, "-5");
            return x.roundInverse(0) + ":" + x.number(0);
        });
        due("399:399", () -> {
            Clockhouse x = at(400, "-1");
            return x.roundInverse(0) + ":" + x.number(0);
        });
    }

    private static void sizes() {
        says(26, "Returns the DIAL (also if it is JAMMED).");
        due(12, () -> new Clockhouse().size());
        for (int dial : new int[] {-9, -8, -1, 0, 1, 399, 400}) {
            due(dial, () -> with(dial).size());
        }
    }

    private static void mods() {
        says(27, "slot is not 0 to 5");
        slotEdges(Checks::house, 5, 3, (x, slot) -> x.mod(slot));
        says(27, "Returns its NUMBER MOD the DIAL.");
        for (int dial : DIALS) {
            for (String number : NUMBERS) {
                due(restOf(number, dial), () -> at(dial, number).mod(0));
            }
            due(0, () -> with(dial, dial).mod(0));
            due(0, () -> with(dial, -dial).mod(0));
            due(dial - 1, () -> with(dial, dial - 1).mod(0));
            due(dial - 1, () -> with(dial, -1).mod(0));
            due(1 % dial, () -> with(dial, dial + 1).mod(0));
            due(dial - 1, () -> with(dial, -dial - 1).mod(0));
        }
        says(TERMS, "m is the DIAL, not JAMMED. ON THE DIAL are the numbers 0 to m - 1.");
        due(0, () -> at(1, NINES).mod(0));
        due(399, () -> at(400, NINES).mod(0));
    }

    private static void gcds() {
        says(28, "slot is not 0 to 5");
        slotEdges(Checks::house, 1, 3, (x, slot) -> x.gcd(slot));
        says(28, "Returns the GCD of its NUMBER and the DIAL.");
        for (int dial : DIALS) {
            for (String number : NUMBERS) {
                int common = new BigInteger(number).gcd(BigInteger.valueOf(dial)).intValue();
                due(common, () -> at(dial, number).gcd(0));
            }
        }
        says(TERMS, "GCD of two numbers: the greatest number that divides both; of 0 and n it is n without its sign");
        due(12, () -> with(12, 0).gcd(0));
        due(1, () -> with(1, 0).gcd(0));
        due(400, () -> with(400, -800).gcd(0));
    }

    private static void powersAsked() {
        says(29, "slot or exponent is not 0 to 5");
        slotEdges(Checks::house, 1, 9, (x, slot) -> x.power(slot, 2));
        slotEdges(Checks::house, 0, MISSED, (x, slot) -> x.power(4, slot));
        says(29, "Returns the POWER of its NUMBER, or MISSED.");
        for (int dial : DIALS) {
            for (String a : NUMBERS) {
                for (String e : NUMBERS) {
                    due(powerDue(a, e, dial), () -> at(dial, a, e).power(0, 1));
                }
            }
        }
    }

    private static int powerDue(String a, String e, int dial) {
        BigInteger m = BigInteger.valueOf(dial);
        boolean hasInverse = new BigInteger(a).gcd(m).equals(BigInteger.ONE);
        if (e.startsWith("-") && !hasInverse) {
            return MISSED;
        }
        return new BigInteger(a).modPow(new BigInteger(e), m).intValue();
    }

    private static void exponents() {
        says(TERMS, "ONE is 1 MOD m (it is 0, if m is 1).");
        due(0, () -> with(1, 7, 0).power(0, 1));
        due(1, () -> with(2, 7, 0).power(0, 1));
        says(TERMS, "POWER of a by an exponent e: with e 0 it is ONE (whatever a is)");
        for (int dial : DIALS) {
            for (String a : NUMBERS) {
                due(1 % dial, () -> at(dial, a, "0").power(0, 1));
            }
        }
        says(TERMS, "with e above 0 the product of e factors a, MOD m");
        due(0, () -> with(12, 0, 1).power(0, 1));
        due(7, () -> with(12, -5, 1).power(0, 1));
        due(1, () -> with(12, -5, 2).power(0, 1));
        due(1, () -> with(397, 5, 396).power(0, 1));
        due(5, () -> with(397, 5, 397).power(0, 1));
        says(TERMS, "with e below 0 the product of -e factors that are the INVERSE of a, MOD m; it is MISSED, "
                + "if there is no INVERSE.");
        due(5, () -> with(7, 3, -1).power(0, 1));
        due(4, () -> with(7, 3, -2).power(0, 1));
        due(4, () -> with(7, 3, Integer.MIN_VALUE).power(0, 1));
        due(MISSED, () -> with(12, 3, -1).power(0, 1));
        due(MISSED, () -> with(12, 0, -1).power(0, 1));
        due(0, () -> with(1, 0, -1).power(0, 1));
    }

    private static void inverses() {
        says(30, "slot is not 0 to 5");
        slotEdges(Checks::house, 5, MISSED, (x, slot) -> x.inverse(slot));
        says(30, "Returns the INVERSE of its NUMBER, or MISSED.");
        for (int dial : DIALS) {
            Clockhouse x = with(dial);
            for (int i = 0; i < Math.min(dial, 200); i++) {
                int a = dial - 1 - i;
                x.set(0, a);
                due(inverseDue(a, dial), () -> x.inverse(0));
            }
        }
        says(TERMS, "An INVERSE of a is a number x on the dial for which a * x MOD m is ONE. "
                + "(If m is 1, each number has the INVERSE 0.)");
        for (String number : NUMBERS) {
            due(0, () -> at(1, number).inverse(0));
        }
        due(1, () -> with(2, 1).inverse(0));
        due(MISSED, () -> with(2, 0).inverse(0));
        due(MISSED, () -> with(2, 2).inverse(0));
        due(11, () -> with(12, -1).inverse(0));
        due(MISSED, () -> with(12, -2).inverse(0));
    }

    private static int inverseDue(int a, int dial) {
        for (int x = 0; x < dial; x++) {
            if (a * x % dial == 1 % dial) {
                return x;
            }
        }
        return MISSED;
    }

    private static void solutionsCounted() {
        says(31, "slot or other is not 0 to 5");
        slotEdges(Checks::house, 1, 3, (x, slot) -> x.solutions(slot, 4));
        slotEdges(() -> with(12, 5, 6, 0, 0, 0, 18), 0, 6, (x, slot) -> x.solutions(1, slot));
        says(31, "`other`: a SLOT (it may be the same)");
        due(1, () -> with(12, 5).solutions(0, 0));
        due(12, () -> with(12, 0).solutions(0, 0));
        says(31, "Returns how many SOLUTIONS both NUMBERS have, that of slot as a, that of other as b.");
        due(400, () -> with(400, 0, 0).solutions(0, 1));
        due(400, () -> with(400, 400, -800).solutions(0, 1));
        due(0, () -> with(400, 0, 1).solutions(0, 1));
        due(1, () -> with(1, 5, 7).solutions(0, 1));
        due(4, () -> with(12, 8, 4).solutions(0, 1));
        due(0, () -> with(12, 4, 2).solutions(0, 1));
        due(2, () -> with(12, 2, 4).solutions(0, 1));
        due(4, () -> with(12, -8, -4).solutions(0, 1));
    }

    private static void solutionsByPlace() {
        says(32, "slot or other is not 0 to 5");
        slotEdges(Checks::house, 6, 2, (x, slot) -> x.solution(slot, 4, 0));
        slotEdges(Checks::house, 1, 3, (x, slot) -> x.solution(1, slot, 0));
        says(32, "place is below 0");
        due(0, () -> with(12, 0).solution(0, 0, 0));
        refused(ARGUMENT, Checks::house, x -> x.solution(0, 0, -1));
        refused(ARGUMENT, Checks::house, x -> x.solution(0, 0, Integer.MIN_VALUE));
        says(32, "`place`: which one, from 0 on by rising numbers");
        int[] rising = {2, 5, 8, 11};
        for (int i = 0; i < rising.length; i++) {
            int place = i;
            due(rising[place], () -> with(12, 8, 4).solution(0, 1, place));
        }
        says(32, "Returns that SOLUTION of both NUMBERS, or NONE.");
        due(NONE, () -> with(12, 8, 4).solution(0, 1, 4));
        due(NONE, () -> with(12, 8, 4).solution(0, 1, Integer.MAX_VALUE));
        due(NONE, () -> with(12, 8, 3).solution(0, 1, 0));
        due(399, () -> with(400, 0).solution(0, 0, 399));
        due(NONE, () -> with(400, 0).solution(0, 0, 400));
        due(0, () -> with(1, 9).solution(0, 0, 0));
        due(NONE, () -> with(1, 9).solution(0, 0, 1));
        says(32, "`other`: a SLOT (it may be the same)");
        due(1, () -> with(12, 5).solution(0, 0, 0));
        says(TERMS, "A SOLUTION of a and b is a number x on the dial for which a * x and b have the same MOD m.");
        due(1, () -> with(12, -8, 16).solution(0, 1, 0));
        due(9, () -> at(12, "-1", NINES).solution(0, 1, 0));
    }

    private static List<Integer> unitsOf(int dial) {
        List<Integer> all = new ArrayList<>();
        for (int x = 0; x < dial; x++) {
            if (BigInteger.valueOf(x).gcd(BigInteger.valueOf(dial)).intValue() == 1) {
                all.add(x);
            }
        }
        return all;
    }

    private static void unitsCounted() {
        says(33, "Returns how many UNITS there are.");
        for (int i = 1; i <= 400; i++) {
            int dial = i;
            due(unitsOf(dial).size(), () -> with(dial).units());
        }
        says(TERMS, "UNITS: those numbers on the dial whose GCD with m is 1.");
        due(1, () -> with(1).units());
        due(1, () -> with(2).units());
        due(2, () -> with(3).units());
        due(396, () -> with(397).units());
        due(160, () -> with(400).units());
    }

    private static int orderDue(int a, int dial) {
        int power = a % dial;
        for (int k = 1; k <= dial; k++) {
            if (power == 1 % dial) {
                return k;
            }
            power = power * a % dial;
        }
        return 0;
    }

    private static void orders() {
        says(34, "slot is not 0 to 5");
        slotEdges(Checks::house, 2, 0, (x, slot) -> x.order(slot));
        says(34, "Returns the ORDER of its NUMBER.");
        for (int dial : DIALS) {
            Clockhouse x = with(dial);
            for (int i = 0; i < Math.min(dial, 200); i++) {
                int a = dial - 1 - i;
                x.set(0, a);
                due(orderDue(a, dial), () -> x.order(0));
            }
        }
        says(TERMS, "The ORDER of a is the least k of 1 or more for which POWER of a by k is ONE; 0, if there is none.");
        due(1, () -> with(12, 1).order(0));
        due(2, () -> with(12, -1).order(0));
        due(0, () -> with(12, 0).order(0));
        due(0, () -> with(12, 2).order(0));
        due(1, () -> with(2, -1).order(0));
        due(396, () -> with(397, 5).order(0));
        due(1, () -> at(2, NINES).order(0));
    }

    private static List<Integer> generatorsOf(int dial) {
        List<Integer> units = unitsOf(dial);
        List<Integer> all = new ArrayList<>();
        for (int x : units) {
            if (orderDue(x, dial) == units.size()) {
                all.add(x);
            }
        }
        return all;
    }

    private static void generatorsByPlace() {
        says(35, "place is below 0");
        refused(ARGUMENT, Checks::house, x -> x.generator(-1));
        refused(ARGUMENT, Checks::house, x -> x.generator(Integer.MIN_VALUE));
        due(3, () -> with(7).generator(0));
        says(35, "`place`: which one, from 0 on by rising numbers");
        Clockhouse x = with(397);
        List<Integer> all = generatorsOf(397);
        for (int i = 0; i < all.size(); i++) {
            int place = i;
            due(all.get(place), () -> x.generator(place));
        }
        says(35, "Returns that GENERATOR, or NONE.");
        due(NONE, () -> x.generator(all.size()));
        due(NONE, () -> x.generator(Integer.MAX_VALUE));
        for (int i = 1; i <= 400; i++) {
            int dial = i;
            List<Integer> known = generatorsOf(dial);
            int last = known.size() - 1;
            due(last < 0 ? NONE : known.get(0), () -> with(dial).generator(0));
            due(last < 0 ? NONE : known.get(last), () -> with(dial).generator(Math.max(0, last)));
            due(NONE, () -> with(dial).generator(known.size()));
        }
        says(TERMS, "(If m is 1: 0 is the one of the UNITS, with the ORDER 1, and a GENERATOR.)");
        due(1, () -> with(1).units());
        due(1, () -> with(1).order(0));
        due(1, () -> with(1, 5).order(0));
        due(0, () -> with(1).generator(0));
        due(NONE, () -> with(1).generator(1));
        due(true, () -> with(1).isGenerator(0));
        due(true, () -> with(1, -5).isGenerator(0));
    }

    private static void generatorsKnown() {
        says(36, "slot is not 0 to 5");
        slotEdges(() -> house(5), true, false, (x, slot) -> x.isGenerator(slot));
        says(36, "Returns whether its NUMBER MOD the DIAL is a GENERATOR (false, if the DIAL is JAMMED).");
        for (int dial : new int[] {-9, -8, -1, 0}) {
            tells(false, () -> house(dial), x -> x.isGenerator(0));
        }
        due(true, () -> with(7, 3).isGenerator(0));
        due(true, () -> with(7, 10).isGenerator(0));
        due(true, () -> with(7, -4).isGenerator(0));
        due(false, () -> with(7, 2).isGenerator(0));
        says(TERMS, "A GENERATOR is one of the UNITS whose ORDER is the count of UNITS.");
        due(true, () -> with(2, 1).isGenerator(0));
        due(false, () -> with(2, 0).isGenerator(0));
        due(true, () -> with(4, 3).isGenerator(0));
        due(false, () -> with(8, 3).isGenerator(0));
        for (int dial : DIALS) {
            Clockhouse x = with(dial);
            List<Integer> all = generatorsOf(dial);
            for (int i = 0; i < Math.min(dial, 200); i++) {
                int a = dial - 1 - i;
                x.set(0, a);
                due(all.contains(a), () -> x.isGenerator(0));
            }
        }
    }

    private static void generatorsOfAnotherDial() {
        says(TERMS, "A GENERATOR is one of the UNITS whose ORDER is the count of UNITS.");
        Clockhouse x = with(397, -1);
        for (int dial : new int[] {397, 7, 11, 400, 1, 311, 2, 8, 0, 12, 211, 5, 3, 331, 4, 23}) {
            x.dial(dial);
            List<Integer> all = generatorsOf(dial);
            int due = dial <= 0 ? JAMMED : all.isEmpty() ? NONE : all.get(0);
            due(due, () -> x.generator(0));
            due(dial <= 0 ? JAMMED : NONE, () -> x.generator(all.size()));
            due(all.contains(dial - 1), () -> x.isGenerator(0));
        }
    }

    private static void rowsOfPowers() {
        says(37, "slot is not 0 to 5");
        slotEdges(Checks::house, "1 5", "1 3 9", (x, slot) -> x.powers(slot));
        says(37, "Returns the ROW OF POWERS of its NUMBER, with a blank between two; \"jammed\", if the DIAL is.");
        for (int dial : new int[] {-9, -8, -1, 0}) {
            tells("jammed", () -> house(dial), x -> x.powers(0));
        }
        due("0", () -> with(1, 7).powers(0));
        due("1 0", () -> with(2, 0).powers(0));
        due("1", () -> with(2, 1).powers(0));
        due("1", () -> with(400, 1).powers(0));
        due("1 0", () -> with(400, 0).powers(0));
        due("1 399", () -> with(400, -1).powers(0));
        says(TERMS, "The ROW OF POWERS of a: POWERS by 0, 1, 2, and so on, till the first that would be there twice "
                + "(this one does not stand in it).");
        due("1 2 4 8", () -> with(12, 2).powers(0));
        due("1 3 2 6 4 5", () -> with(7, 3).powers(0));
        due("1 2 4 8 16 32 64 128 0", () -> with(256, 2).powers(0));
        due("1 10 100", () -> with(300, 10).powers(0));
        due("1 5 25 125", () -> with(250, 5).powers(0));
        String longest = with(397, 5).powers(0);
        due("1 5 25 125 228", () -> longest.substring(0, 14));
        due(396, () -> longest.split(" ").length);
    }

    private static void partsOfRows() {
        says(38, "slot is not 0 to 5");
        slotEdges(Checks::house, 6, 13, (x, slot) -> x.ofPowers(slot, 3));
        says(38, "what is not 0 to 3");
        for (int what : new int[] {-1, 4, Integer.MIN_VALUE, Integer.MAX_VALUE}) {
            refused(ARGUMENT, Checks::house, x -> x.ofPowers(0, what));
        }
        says(38, "0 how many stand in the ROW OF POWERS of its NUMBER, 1 TAIL, 2 CYCLE, 3 all of them together as a sum");
        partsAre(with(12, 2), 4, 2, 2, 15);
        partsAre(with(12, 5), 2, 0, 2, 6);
        partsAre(with(12, 0), 2, 1, 1, 1);
        partsAre(with(12, 1), 1, 0, 1, 1);
        partsAre(with(1, 5), 1, 0, 1, 0);
        partsAre(with(2, 0), 2, 1, 1, 1);
        partsAre(with(256, 2), 9, 8, 1, 255);
        partsAre(with(397, 5), 396, 0, 396, 396 * 397 / 2);
        partsAre(with(398, 3), 198, 0, 198, 39402);
        says(TERMS, "TAIL: the place in it (from 0 on) at which the one that would come then stands; CYCLE: how many "
                + "there are from that place on (of 2 by the DIAL 12: 1, 2, 4, 8, and 4 would come then: TAIL 2, CYCLE 2).");
        due(2, () -> with(12, 2).ofPowers(0, 1));
        due(2, () -> with(12, 2).ofPowers(0, 2));
        due(3, () -> with(24, 2).ofPowers(0, 1));
        due(2, () -> with(24, 2).ofPowers(0, 2));
        says(38, "Returns that.");
        for (int dial : DIALS) {
            for (int a : new int[] {2, 3, 6, 10, -1, -2}) {
                rowIsAsDue(a, dial);
            }
        }
    }

    private static void partsAre(Clockhouse x, int... parts) {
        for (int i = 0; i < parts.length; i++) {
            int what = i;
            due(parts[what], () -> x.ofPowers(0, what));
        }
    }

    private static void rowIsAsDue(int a, int dial) {
        List<Integer> row = new ArrayList<>();
        int next = 1 % dial;
        int sum = 0;
        while (!row.contains(next)) {
            row.add(next);
            sum += next;
            next = next * Math.floorMod(a, dial) % dial;
        }
        int tail = row.indexOf(next);
        partsAre(with(dial, a), row.size(), tail, row.size() - tail, sum);
        due(row.toString().replaceAll("[\\[\\],]", ""), () -> with(dial, a).powers(0));
    }

    private static List<Integer> rootsOf(int a, int dial) {
        List<Integer> all = new ArrayList<>();
        for (int x = 0; x < dial; x++) {
            if (x * x % dial == a) {
                all.add(x);
            }
        }
        return all;
    }

    private static void rootsCounted() {
        says(39, "slot is not 0 to 5");
        slotEdges(() -> house(8), 4, 0, (x, slot) -> x.roots(slot));
        says(39, "Returns how many ROOTS its NUMBER has.");
        for (int dial : DIALS) {
            Clockhouse x = with(dial);
            for (int i = 0; i < Math.min(dial, 200); i++) {
                int a = i;
                x.set(0, a);
                due(rootsOf(a, dial).size(), () -> x.roots(0));
            }
        }
        says(TERMS, "A ROOT of a is a number x on the dial for which x * x and a have the same MOD m.");
        due(1, () -> with(1, 7).roots(0));
        due(1, () -> with(2, -1).roots(0));
        due(20, () -> with(400, 0).roots(0));
        due(0, () -> with(12, -1).roots(0));
        due(4, () -> with(12, -8).roots(0));
        due(4, () -> with(12, 13).roots(0));
    }

    private static void rootsByPlace() {
        says(40, "slot is not 0 to 5");
        slotEdges(() -> house(8), 1, NONE, (x, slot) -> x.root(slot, 0));
        says(40, "place is below 0");
        due(2, () -> with(12, 4).root(0, 0));
        refused(ARGUMENT, Checks::house, x -> x.root(0, -1));
        refused(ARGUMENT, Checks::house, x -> x.root(0, Integer.MIN_VALUE));
        says(40, "`place`: which one, from 0 on by rising numbers");
        for (int dial : DIALS) {
            List<Integer> all = rootsOf(0, dial);
            for (int i = 0; i < all.size(); i++) {
                int place = i;
                due(all.get(place), () -> with(dial, 0).root(0, place));
            }
        }
        says(40, "Returns that ROOT, or NONE.");
        due(10, () -> with(12, 4).root(0, 3));
        due(NONE, () -> with(12, 4).root(0, 4));
        due(NONE, () -> with(12, 4).root(0, Integer.MAX_VALUE));
        due(NONE, () -> with(12, 2).root(0, 0));
        due(0, () -> with(1, 2).root(0, 0));
        due(NONE, () -> with(1, 2).root(0, 1));
        due(380, () -> with(400, 0).root(0, 19));
        due(NONE, () -> with(400, 0).root(0, 20));
    }

    private static boolean isPrimeDue(int dial) {
        return dial > 0 && BigInteger.valueOf(dial).isProbablePrime(60);
    }

    private static void primes() {
        says(41, "Returns whether the DIAL is a prime (false, if it is JAMMED or 1).");
        for (int i = -9; i <= 400; i++) {
            int dial = i;
            due(isPrimeDue(dial), () -> with(dial).isPrime());
        }
        for (int dial : new int[] {-9, -7, -3, -2, -1, 0, 1, 4, 9, 289, 361, 399, 400}) {
            due(false, () -> with(dial).isPrime());
        }
        for (int dial : new int[] {2, 3, 5, 397}) {
            due(true, () -> with(dial).isPrime());
        }
    }

    private static void legendres() {
        says(42, "slot is not 0 to 5");
        slotEdges(() -> house(3), -1, 0, (x, slot) -> x.legendre(slot));
        says(42, "Returns LEGENDRE of its NUMBER; MISSED, if the DIAL is no odd prime.");
        for (int i = -9; i <= 400; i++) {
            int dial = i;
            int due = dial <= 0 ? JAMMED : dial > 2 && isPrimeDue(dial) ? 1 : MISSED;
            due(due, () -> with(dial, 1).legendre(0));
        }
        due(MISSED, () -> with(1, 0).legendre(0));
        due(MISSED, () -> with(2, 1).legendre(0));
        due(1, () -> with(3, 1).legendre(0));
        due(MISSED, () -> with(9, 1).legendre(0));
        says(TERMS, "LEGENDRE of a (only if m is an odd prime): 0, if m divides a; otherwise 1, if a has a ROOT; "
                + "otherwise -1.");
        for (int dial : new int[] {3, 5, 7, 97, 397}) {
            due(0, () -> with(dial, 0).legendre(0));
            due(0, () -> with(dial, dial).legendre(0));
            due(0, () -> with(dial, -dial).legendre(0));
            Clockhouse x = with(dial);
            for (int i = 1; i < Math.min(dial, 200); i++) {
                int a = i;
                x.set(0, a);
                due(rootsOf(a, dial).isEmpty() ? -1 : 1, () -> x.legendre(0));
            }
        }
        due(-1, () -> with(3, -1).legendre(0));
        due(1, () -> with(397, -1).legendre(0));
    }

    private static int jacobiDue(int a, int dial) {
        int product = 1;
        int left = dial;
        for (int p = 3; left > 1; p += 2) {
            while (left % p == 0) {
                product *= a % p == 0 ? 0 : rootsOf(a % p, p).isEmpty() ? -1 : 1;
                left /= p;
            }
        }
        return product;
    }

    private static void jacobis() {
        says(43, "slot is not 0 to 5");
        slotEdges(() -> house(15), 1, 0, (x, slot) -> x.jacobi(slot));
        says(43, "Returns JACOBI of its NUMBER; MISSED, if the DIAL is even.");
        for (int i = 1; i <= 400; i++) {
            int dial = i;
            due(dial % 2 == 0 ? MISSED : 1, () -> with(dial, 1).jacobi(0));
        }
        due(MISSED, () -> with(2, 1).jacobi(0));
        due(MISSED, () -> with(400, 1).jacobi(0));
        due(JAMMED, () -> with(0, 1).jacobi(0));
        due(JAMMED, () -> with(-8, 1).jacobi(0));
        says(TERMS, "JACOBI of a (only if m is odd): the product of all LEGENDRES of a by the primes whose product m is, "
                + "each as often as it stands in it (if m is 1: 1).");
        due(1, () -> with(1, 0).jacobi(0));
        due(1, () -> with(1, -5).jacobi(0));
        due(1, () -> with(9, 2).jacobi(0));
        due(-1, () -> with(27, 2).jacobi(0));
        due(1, () -> with(81, 2).jacobi(0));
        due(-1, () -> with(243, 2).jacobi(0));
        due(0, () -> with(27, 3).jacobi(0));
        due(0, () -> with(15, 5).jacobi(0));
        due(1, () -> with(15, 2).jacobi(0));
        due(-1, () -> with(15, -1).jacobi(0));
        for (int dial : new int[] {1, 3, 9, 15, 27, 45, 105, 225, 315, 343, 375, 397, 399}) {
            Clockhouse x = with(dial);
            for (int i = 0; i < Math.min(dial, 200); i++) {
                int a = i;
                x.set(0, a);
                due(jacobiDue(a, dial), () -> x.jacobi(0));
            }
        }
    }

    private static final Step[] ASKS = {x -> x.mod(0), x -> x.gcd(0), x -> x.power(0, 2), x -> x.inverse(0),
        x -> x.solutions(0, 4), x -> x.solution(0, 4, 0), x -> x.units(), x -> x.order(0), x -> x.generator(0),
        x -> x.ofPowers(0, 0), x -> x.roots(0), x -> x.root(0, 0), x -> x.legendre(0), x -> x.jacobi(0)};

    private static void jammedAsks() {
        says(TERMS, "If it is 0 or below, it is JAMMED.");
        for (Step ask : ASKS) {
            for (int dial : new int[] {-9, -8, -1, 0}) {
                tells(JAMMED, () -> house(dial), ask);
            }
            Clockhouse x = house(1);
            due(false, () -> ask.on(x).equals(JAMMED));
        }
        says(TERMS, "NONE is -1, JAMMED is told as -9, MISSED as -8.");
        due(-1, () -> with(12, 2).root(0, 0));
        due(-9, () -> with(0).units());
        due(-8, () -> with(12, 2).inverse(0));
    }

    private static void jammedAheadOfMissed() {
        says(TERMS, "An exception comes ahead of JAMMED, JAMMED ahead of MISSED.");
        for (int dial : new int[] {-9, -8, 0}) {
            nothingDone(JAMMED, () -> house(dial), x -> x.roundPower(3, 1));
            nothingDone(JAMMED, () -> house(dial), x -> x.roundInverse(3));
            tells(JAMMED, () -> house(dial), x -> x.power(3, 1));
            tells(JAMMED, () -> house(dial), x -> x.inverse(3));
            tells(JAMMED, () -> house(dial), x -> x.legendre(3));
            tells(JAMMED, () -> house(dial), x -> x.jacobi(3));
            tells(JAMMED, () -> house(dial), x -> x.generator(Integer.MAX_VALUE));
            tells(JAMMED, () -> house(dial), x -> x.root(3, Integer.MAX_VALUE));
            tells(JAMMED, () -> house(dial), x -> x.solution(3, 0, Integer.MAX_VALUE));
        }
    }
}
