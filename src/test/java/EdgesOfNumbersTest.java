import java.math.BigInteger;

/** The boundary cases of part 1 of the Terms and of the promises 1 to 7 and 20 to 25. */
public final class EdgesOfNumbersTest extends Checks {

    private static final BigInteger LIMIT = BigInteger.TEN.pow(36);

    public static void main(String[] args) {
        aNewHouse();
        dialTold();
        dialJammed();
        numberTold();
        lengthened();
        tooLongLengthened();
        added();
        tooLongAdded();
        multiplied();
        tooLongMultiplied();
        negated();
        aboveBelowOrZero();
        mostDigits();
        texts();
        zeroHasNoSign();
        digitsCounted();
        greatestCommon();
        bigMods();
        bigModsOfWrongGuesses();
        bigInverses();
        bigPowers();
        bigPowersBelow();
        jammedAheadOfMissed();
        end("the edges of numbers hold");
    }

    private static void aNewHouse() {
        Clockhouse x = new Clockhouse();
        says(1, "Creates six slots of 0 and a dial of 12.");
        due(12, () -> x.size());
        says(TERMS, "There are six SLOTS, 0 to 5, each with a NUMBER, 0 at first.");
        for (int i = 0; i < 6; i++) {
            int slot = i;
            due("0", () -> x.number(slot));
            due(1, () -> x.digits(slot));
        }
        for (int slot : NO_SLOTS) {
            due(INDEX, () -> x.number(slot));
        }
        says(1, "Creates six slots of 0 and a dial of 12.");
        due(0, () -> x.rows());
        due(0, () -> x.bases());
        for (int i = 0; i < 4; i++) {
            int what = i;
            due(0, () -> x.books(what));
        }
    }

    private static void dialTold() {
        says(2, "size is not -9 to 400");
        due(12, () -> house().dial(-9));
        due(12, () -> house().dial(400));
        due(-9, () -> house(-9).size());
        due(400, () -> house(400).size());
        for (int size : new int[] {-10, 401, Integer.MIN_VALUE, Integer.MAX_VALUE}) {
            refused(ARGUMENT, Checks::house, x -> x.dial(size));
        }
        says(2, "Returns the DIAL before (also if that is -9 or -8, this is a CHANGE).");
        due(12, () -> new Clockhouse().dial(1));
        for (int before : new int[] {-9, -8, -1, 0, 1, 400}) {
            Clockhouse x = with(before);
            due(before, () -> x.dial(7));
            due(2, () -> x.books(3));
            due(0, () -> x.books(0));
            due(0, () -> x.books(1));
            due(1, () -> x.undo());
            due(before, () -> x.size());
        }
    }

    private static void dialJammed() {
        says(TERMS, "The DIAL is -9 to 400; 12 at first. If it is 0 or below, it is JAMMED.");
        due(12, () -> new Clockhouse().size());
        for (int i = -9; i <= 400; i++) {
            int dial = i;
            due(dial, () -> with(dial).size());
            due(dial <= 0 ? JAMMED : 0, () -> with(dial).mod(0));
        }
        due(JAMMED, () -> with(0, 5).mod(0));
        due(0, () -> with(1, 5).mod(0));
    }

    private static void numberTold() {
        says(3, "slot is not 0 to 5");
        slotEdges(Checks::house, "1:1", "1:1", (x, slot) -> x.set(slot, 1) + ":" + x.number(slot));
        says(3, "Returns DIGITS of it.");
        int[] values = {0, 1, -1, 9, -9, 10, -10, 99, 100, 999999999, -999999999, 1000000000, -1000000000,
            Integer.MAX_VALUE, Integer.MIN_VALUE};
        for (int value : values) {
            Clockhouse x = new Clockhouse();
            due(String.valueOf(value).replace("-", "").length(), () -> x.set(3, value));
            due(String.valueOf(value), () -> x.number(3));
            due(1, () -> x.books(3));
        }
        says(3, "Tells a NUMBER.");
        Clockhouse x = holding(NINES);
        due(1, () -> x.set(0, 7));
        due("7", () -> x.number(0));
        due("0", () -> x.number(1));
    }

    private static void lengthened() {
        says(4, "slot is not 0 to 5");
        slotEdges(Checks::house, "11:17000000000", "10:-9000000000",
                (x, slot) -> x.lengthen(slot, 0) + ":" + x.number(slot));
        says(4, "more is not 0 to 999999999");
        due(11, () -> house().lengthen(0, 0));
        due(11, () -> house().lengthen(0, 999999999));
        for (int more : new int[] {-1, 1000000000, Integer.MIN_VALUE, Integer.MAX_VALUE}) {
            refused(ARGUMENT, Checks::house, x -> x.lengthen(0, more));
        }
        says(4, "Returns DIGITS of it then.");
        due(1, () -> new Clockhouse().lengthen(0, 0));
        due(1, () -> new Clockhouse().lengthen(0, 9));
        due(9, () -> new Clockhouse().lengthen(0, 999999999));
        due(10, () -> with(12, 1).lengthen(0, 0));
        due(9, () -> with(12, -1).lengthen(0, 1));
        due(1, () -> with(12, -1).lengthen(0, 999999999));
        says(4, "Makes a NUMBER n what n * 1000000000 + more is (also if n is below 0).");
        String[] starts = {"0", "1", "-1", "-2", "2147483647", "-999999999", "-1000000000", "-1000000000000000001"};
        int[] ends = {0, 1, 499999999, 999999998, 999999999};
        for (String start : starts) {
            for (int more : ends) {
                Clockhouse x = holding(start);
                x.lengthen(0, more);
                BigInteger due = new BigInteger(start).multiply(BigInteger.valueOf(1000000000));
                due(due.add(BigInteger.valueOf(more)).toString(), () -> x.number(0));
            }
        }
    }

    private static void tooLongLengthened() {
        says(4, "it would be TOO LONG");
        String last = "9".repeat(27);
        due(36, () -> holding(last).lengthen(0, 999999999));
        due(36, () -> holding(tenTo(26)).lengthen(0, 0));
        refused(STATE, () -> holding(tenTo(27)), x -> x.lengthen(0, 0));
        refused(STATE, () -> holding(tenTo(27)), x -> x.lengthen(0, 999999999));
        refused(STATE, () -> holding(NINES), x -> x.lengthen(0, 0));
        refused(STATE, () -> holding("-" + NINES), x -> x.lengthen(0, 999999999));
        due(36, () -> holding("-" + last).lengthen(0, 0));
        // Below 0 what comes behind makes the number shorter again.
        refused(STATE, () -> holding("-" + tenTo(27)), x -> x.lengthen(0, 0));
        Clockhouse x = holding("-" + tenTo(27));
        due(36, () -> x.lengthen(0, 1));
        due("-" + NINES, () -> x.number(0));
        refused(STATE, () -> holding("-1" + "0".repeat(26) + "1"), y -> y.lengthen(0, 999999999));
    }

    private static void added() {
        says(5, "slot or other is not 0 to 5");
        slotEdges(Checks::house, "2:47", "2:21", (x, slot) -> x.plus(slot, 4) + ":" + x.number(slot));
        slotEdges(Checks::house, "2:47", "2:21", (x, slot) -> x.plus(4, slot) + ":" + x.number(4));
        says(5, "`other`: a SLOT (it may be the same)");
        due("2:34", () -> sumOf("17"));
        due("1:0", () -> sumOf("0"));
        due("10:-1999999998", () -> sumOf("-999999999"));
        due("36:" + "9".repeat(35) + "8", () -> sumOf("4" + "9".repeat(35)));
        says(5, "Returns DIGITS of it then.");
        due("1:0", () -> sumOf("-" + NINES, NINES));
        due("1:1", () -> sumOf("1000000000", "-999999999"));
        due("1:-1", () -> sumOf("-1000000000000000000", "999999999999999999"));
        due("10:1000000000", () -> sumOf("999999999", "1"));
        due("28:" + tenTo(27), () -> sumOf("9".repeat(27), "1"));
        due("27:-" + "9".repeat(27), () -> sumOf("-" + tenTo(27), "1"));
        due("10:-9999999999", () -> sumOf("1", "-10000000000"));
    }

    /** Adds the second NUMBER (or, if there is none, the first itself) to the first. */
    private static String sumOf(String... texts) {
        Clockhouse x = holding(texts);
        return x.plus(0, texts.length - 1) + ":" + x.number(0);
    }

    private static void tooLongAdded() {
        says(5, "it would be TOO LONG");
        due("36:" + NINES, () -> sumOf("9".repeat(35) + "8", "1"));
        due("36:-" + NINES, () -> sumOf("-" + "9".repeat(35) + "8", "-1"));
        due("36:" + NINES, () -> sumOf(NINES, "0"));
        due("35:" + "9".repeat(35), () -> sumOf(NINES, "-9" + "0".repeat(35)));
        refused(STATE, () -> holding(NINES, "1"), x -> x.plus(0, 1));
        refused(STATE, () -> holding(NINES, "1"), x -> x.plus(1, 0));
        refused(STATE, () -> holding("-" + NINES, "-1"), x -> x.plus(0, 1));
        refused(STATE, () -> holding("5" + "0".repeat(35)), x -> x.plus(0, 0));
        refused(STATE, () -> holding("-5" + "0".repeat(35)), x -> x.plus(0, 0));
        refused(STATE, () -> holding(NINES, NINES), x -> x.plus(0, 1));
    }

    private static void multiplied() {
        says(6, "slot or other is not 0 to 5");
        slotEdges(Checks::house, "3:510", "3:-270", (x, slot) -> x.times(slot, 4) + ":" + x.number(slot));
        slotEdges(Checks::house, "3:510", "3:-270", (x, slot) -> x.times(4, slot) + ":" + x.number(4));
        says(6, "`other`: a SLOT (it may be the same)");
        due("2:81", () -> productOf("-9"));
        due("1:0", () -> productOf("0"));
        due("19:1000000000000000000", () -> productOf("-1000000000"));
        says(6, "Returns DIGITS of it then.");
        due("1:0", () -> productOf(NINES, "0"));
        due("1:0", () -> productOf("0", "-" + NINES));
        due("36:-" + NINES, () -> productOf(NINES, "-1"));
        due("1:-6", () -> productOf("2", "-3"));
        due("18:999999998000000001", () -> productOf("999999999", "999999999"));
    }

    /** Multiplies the first NUMBER by the second one (or, if there is none, by itself). */
    private static String productOf(String... texts) {
        Clockhouse x = holding(texts);
        return x.times(0, texts.length - 1) + ":" + x.number(0);
    }

    private static void tooLongMultiplied() {
        says(6, "it would be TOO LONG");
        due("36:" + tenTo(35), () -> productOf(tenTo(17), tenTo(18)));
        due("36:" + NINES, () -> productOf("3".repeat(36), "3"));
        due("36:-" + NINES, () -> productOf("-" + "1".repeat(36), "9"));
        due("36:999999999999999998000000000000000001", () -> productOf("-999999999999999999"));
        refused(STATE, () -> holding(tenTo(18)), x -> x.times(0, 0));
        refused(STATE, () -> holding("-" + tenTo(18)), x -> x.times(0, 0));
        refused(STATE, () -> holding(tenTo(18), "-" + tenTo(18)), x -> x.times(0, 1));
        refused(STATE, () -> holding(tenTo(35), "10"), x -> x.times(1, 0));
        refused(STATE, () -> holding("3".repeat(35) + "4", "3"), x -> x.times(0, 1));
        refused(STATE, () -> holding(NINES), x -> x.times(0, 0));
        refused(STATE, () -> holding(NINES, "2"), x -> x.times(0, 1));
    }

    private static void negated() {
        says(7, "slot is not 0 to 5");
        slotEdges(Checks::house, "-1:-17", "1:9", (x, slot) -> x.negate(slot) + ":" + x.number(slot));
        says(7, "Returns -1, 0 or 1: below 0, 0 or above 0 then.");
        due("-1:-1", () -> negativeOf("1"));
        due("0:0", () -> negativeOf("0"));
        due("1:1", () -> negativeOf("-1"));
        due(1, () -> with(12, Integer.MIN_VALUE).negate(0));
        due("-1:-" + NINES, () -> negativeOf(NINES));
        due("1:" + NINES, () -> negativeOf("-" + NINES));
    }

    private static String negativeOf(String text) {
        Clockhouse x = holding(text);
        return x.negate(0) + ":" + x.number(0);
    }

    private static void aboveBelowOrZero() {
        says(TERMS, "A NUMBER is above, below or 0");
        due(-1, () -> with(12, 1).negate(0));
        due(1, () -> with(12, -1).negate(0));
        due(0, () -> with(12, 0).negate(0));
    }

    private static void mostDigits() {
        says(TERMS, "it has at most 36 digits (what would have more is refused: TOO LONG)");
        for (String sign : new String[] {"", "-"}) {
            due(36, () -> holding(sign + NINES).digits(0));
            due(sign + NINES, () -> holding(sign + NINES).number(0));
            due(36, () -> holding(sign + tenTo(35)).digits(0));
            refused(STATE, () -> holding(sign + NINES, sign + "1"), x -> x.plus(0, 1));
            refused(STATE, () -> holding(sign + tenTo(35), "10"), x -> x.times(0, 1));
            refused(STATE, () -> holding(sign + tenTo(27)), x -> x.lengthen(0, 0));
        }
        // What a refusal leaves behind can still be used.
        Clockhouse x = holding(NINES, "1", "-1");
        due(STATE, () -> x.plus(0, 1));
        due(36, () -> x.plus(0, 2));
        due(36, () -> x.plus(0, 1));
        due(NINES, () -> x.number(0));
    }

    private static void texts() {
        says(TERMS, "Its text is in digits, \"-\" ahead of it if it is below 0, without a needless 0 (\"0\", \"-12\").");
        String[] texts = {"0", "-12", "7", "-7", "10", "100000000", "999999999", "1000000000", "1000000001",
            "-1000000000", "1000000000000000000", "1000000000000000001", "5000000007000000000",
            "1000000000000000000000000000", "-100000000000000000000000000000000000", NINES, "-" + NINES};
        for (String text : texts) {
            due(text, () -> holding(text).number(0));
        }
        says(20, "slot is not 0 to 5");
        slotEdges(Checks::house, "17", "-9", (x, slot) -> x.number(slot));
        says(20, "Returns the text of its NUMBER.");
        due("-2147483648", () -> with(12, Integer.MIN_VALUE).number(0));
        due("2147483647", () -> with(12, Integer.MAX_VALUE).number(0));
    }

    private static void zeroHasNoSign() {
        says(TERMS, "without a needless 0 (\"0\", \"-12\")");
        due("0:0", () -> negativeOf("0"));
        due("1:0", () -> sumOf("-12", "12"));
        due("1:0", () -> sumOf("12", "-12"));
        due("1:0", () -> productOf("-12", "0"));
        due("1:0", () -> productOf("0", "-12"));
        due("0", () -> {
            Clockhouse x = holding("-12");
            x.reduce(0);
            return x.number(0);
        });
        // A 0 that had kept a sign would show it in what is made of it.
        Clockhouse zero = holding("0", "-1");
        zero.times(0, 1);
        due(0, () -> zero.negate(0));
        due(1, () -> zero.lengthen(0, 0));
        due("0", () -> zero.number(0));
    }

    private static void digitsCounted() {
        says(TERMS, "DIGITS: how many digits that text has, without \"-\" (of 0: 1).");
        due(1, () -> new Clockhouse().digits(0));
        for (int i = 1; i <= 36; i++) {
            int count = i;
            due(count, () -> holding(tenTo(count - 1)).digits(0));
            due(count, () -> holding("-" + tenTo(count - 1)).digits(0));
            due(count, () -> holding("9".repeat(count)).digits(0));
            due(count, () -> holding("-" + "9".repeat(count)).digits(0));
        }
        says(21, "slot is not 0 to 5");
        slotEdges(Checks::house, 2, 1, (x, slot) -> x.digits(slot));
        says(21, "Returns DIGITS of its NUMBER.");
        due(1, () -> holding("-9").digits(0));
        due(2, () -> holding("-10").digits(0));
    }

    private static void greatestCommon() {
        says(22, "slot or other is not 0 to 5");
        slotEdges(Checks::house, "1", "3", (x, slot) -> x.bigGcd(slot, 4));
        slotEdges(Checks::house, "1", "3", (x, slot) -> x.bigGcd(4, slot));
        says(22, "`other`: a SLOT (it may be the same)");
        due("9", () -> house().bigGcd(5, 5));
        due(NINES, () -> holding("-" + NINES).bigGcd(0, 0));
        says(22, "Returns the text of the GCD of both NUMBERS.");
        due("12", () -> holding("-24", "36").bigGcd(0, 1));
        due("1", () -> holding(NINES, "9".repeat(35) + "8").bigGcd(0, 1));
        due("9".repeat(18), () -> holding(NINES, "-" + "9".repeat(18)).bigGcd(0, 1));
        due("1", () -> holding("1", NINES).bigGcd(1, 0));
        says(TERMS, "of 0 and n it is n without its sign, of 0 and 0 it is 0.");
        due("0", () -> new Clockhouse().bigGcd(0, 1));
        due("0", () -> new Clockhouse().bigGcd(3, 3));
        for (String text : new String[] {"1", "12", "1000000000", NINES}) {
            due(text, () -> holding("0", text).bigGcd(0, 1));
            due(text, () -> holding("0", text).bigGcd(1, 0));
            due(text, () -> holding("0", "-" + text).bigGcd(0, 1));
            due(text, () -> holding("0", "-" + text).bigGcd(1, 0));
        }
    }

    private static void bigMods() {
        says(23, "slot or by is not 0 to 5");
        slotEdges(Checks::house, "17", "21", (x, slot) -> x.bigMod(slot, 4));
        slotEdges(Checks::house, "13", "jammed", (x, slot) -> x.bigMod(4, slot));
        says(23, "Returns the text of its NUMBER MOD that of the other SLOT; \"jammed\", if that is not above 0.");
        due("jammed", () -> holding("5", "0").bigMod(0, 1));
        due("jammed", () -> holding("5", "-1").bigMod(0, 1));
        due("jammed", () -> holding("5", "-" + NINES).bigMod(0, 1));
        due("jammed", () -> new Clockhouse().bigMod(0, 0));
        due("0", () -> holding("5", "1").bigMod(0, 1));
        due("0", () -> holding("-" + NINES, "1").bigMod(0, 1));
        due("0", () -> holding(NINES).bigMod(0, 0));
        says(TERMS, "MOD of n by a number m above 0 is that number from 0 to m - 1 from which n differs by a multiple of m.");
        for (String m : new String[] {"1", "2", "12", "999999999", "1000000000", "1000000007", tenTo(18), NINES}) {
            BigInteger dial = new BigInteger(m);
            BigInteger[] numbers = {dial.negate(), dial.negate().add(BigInteger.ONE), BigInteger.ONE.negate(),
                BigInteger.ZERO, BigInteger.ONE, dial.subtract(BigInteger.ONE), dial, dial.add(BigInteger.ONE),
                dial.add(dial), dial.negate().subtract(BigInteger.ONE), LIMIT.subtract(BigInteger.ONE),
                BigInteger.ONE.subtract(LIMIT)};
            for (BigInteger n : numbers) {
                if (n.abs().compareTo(LIMIT) < 0) {
                    due(n.mod(dial).toString(), () -> holding(n.toString(), m).bigMod(0, 1));
                }
            }
        }
    }

    /** Long divisions by limbs of nine digits in which the first guess of a limb is one or two too high. */
    private static void bigModsOfWrongGuesses() {
        says(23, "Returns the text of its NUMBER MOD that of the other SLOT");
        String[][] pairs = {{tenTo(27), "1000000000000000001"}, {"2" + "0".repeat(27), "1000000000000000001"},
            {tenTo(27), "333333333499999999"}, {"999999998" + "0".repeat(27), "333333333499999999"},
            {"999999998" + "0".repeat(27), "333333333499999999000000000"},
            {"9".repeat(9) + "0".repeat(27), "333333333499999999000000000"}};
        for (String[] pair : pairs) {
            BigInteger n = new BigInteger(pair[0]);
            BigInteger m = new BigInteger(pair[1]);
            due(n.mod(m).toString(), () -> holding(pair).bigMod(0, 1));
            due(n.negate().mod(m).toString(), () -> holding("-" + pair[0], pair[1]).bigMod(0, 1));
            due(n.gcd(m).toString(), () -> holding(pair).bigGcd(0, 1));
            due(n.multiply(n).mod(m).toString(), () -> holding(pair[0], pair[1], "2").bigPower(0, 2, 1));
        }
    }

    private static void bigInverses() {
        says(24, "slot or by is not 0 to 5");
        slotEdges(Checks::house, "23", "missed", (x, slot) -> x.bigInverse(slot, 4));
        slotEdges(Checks::house, "4", "jammed", (x, slot) -> x.bigInverse(4, slot));
        says(24, "if the NUMBER of the other SLOT were the DIAL; \"jammed\", if that is not above 0; "
                + "otherwise \"missed\", if there is none.");
        due("jammed", () -> holding("1", "0").bigInverse(0, 1));
        due("jammed", () -> holding("1", "-1").bigInverse(0, 1));
        due("0", () -> holding("1", "1").bigInverse(0, 1));
        due("1", () -> holding("1", "2").bigInverse(0, 1));
        due("missed", () -> holding("0", "2").bigInverse(0, 1));
        due("missed", () -> holding("2", "2").bigInverse(0, 1));
        due("missed", () -> holding(NINES).bigInverse(0, 0));
        due("0", () -> holding("1").bigInverse(0, 0));
        due("1", () -> holding("1", NINES).bigInverse(0, 1));
        due("9".repeat(35) + "8", () -> holding("-1", NINES).bigInverse(0, 1));
        due("9".repeat(35) + "8", () -> holding("9".repeat(35) + "8", NINES).bigInverse(0, 1));
        due("5" + "0".repeat(35), () -> holding("2", NINES).bigInverse(0, 1));
        due("missed", () -> holding("3", NINES).bigInverse(0, 1));
        says(TERMS, "(If m is 1, each number has the INVERSE 0.)");
        for (String n : new String[] {"0", "1", "-1", "7", NINES, "-" + NINES}) {
            due("0", () -> holding(n, "1").bigInverse(0, 1));
        }
    }

    private static void bigPowers() {
        says(25, "slot, exponent or by is not 0 to 5");
        slotEdges(Checks::house, "1", "21", (x, slot) -> x.bigPower(slot, 2, 4));
        slotEdges(Checks::house, "8", "missed", (x, slot) -> x.bigPower(2, slot, 4));
        slotEdges(Checks::house, "4", "jammed", (x, slot) -> x.bigPower(2, 4, slot));
        says(25, "if the NUMBER of the third SLOT were the DIAL; \"jammed\", if that is not above 0; "
                + "otherwise \"missed\", if the POWER is.");
        due("jammed", () -> holding("1", "1", "0").bigPower(0, 1, 2));
        due("jammed", () -> holding("1", "1", "-1").bigPower(0, 1, 2));
        due("0", () -> holding("1", "1", "1").bigPower(0, 1, 2));
        due("1", () -> holding("1", "1", "2").bigPower(0, 1, 2));
        due("0", () -> holding("5").bigPower(0, 0, 0));
        says(TERMS, "with e 0 it is ONE (whatever a is)");
        for (String a : new String[] {"0", "1", "-1", "2", "12", NINES, "-" + NINES}) {
            due("1", () -> holding(a, "0", "12").bigPower(0, 1, 2));
            due("1", () -> holding(a, "0", NINES).bigPower(0, 1, 2));
            due("0", () -> holding(a, "0", "1").bigPower(0, 1, 2));
        }
        says(TERMS, "with e above 0 the product of e factors a, MOD m");
        due("0", () -> holding("0", "1", "12").bigPower(0, 1, 2));
        due("11", () -> holding("-1", "1", "12").bigPower(0, 1, 2));
        due("0", () -> holding("12", NINES, "12").bigPower(0, 1, 2));
        due("1", () -> holding("9".repeat(35) + "8", tenTo(35), NINES).bigPower(0, 1, 2));
        BigInteger a = new BigInteger("8".repeat(36));
        BigInteger e = new BigInteger(NINES);
        BigInteger m = new BigInteger("9".repeat(35) + "7");
        due(a.modPow(e, m).toString(), () -> holding(a.toString(), e.toString(), m.toString()).bigPower(0, 1, 2));
        due(a.modPow(a, m).toString(), () -> holding(a.toString(), m.toString()).bigPower(0, 0, 1));
    }

    private static void bigPowersBelow() {
        says(TERMS, "with e below 0 the product of -e factors that are the INVERSE of a, MOD m; it is MISSED, "
                + "if there is no INVERSE.");
        due("5", () -> holding("5", "-1", "12").bigPower(0, 1, 2));
        due("1", () -> holding("5", "-2", "12").bigPower(0, 1, 2));
        due("missed", () -> holding("2", "-1", "12").bigPower(0, 1, 2));
        due("missed", () -> holding("0", "-1", "12").bigPower(0, 1, 2));
        due("missed", () -> holding("2", "-" + NINES, "12").bigPower(0, 1, 2));
        due("4", () -> holding("2", "1", "12", "2").bigPower(0, 3, 2));
        due("0", () -> holding("0", "-1", "1").bigPower(0, 1, 2));
        due("0", () -> holding("7", "-" + NINES, "1").bigPower(0, 1, 2));
        BigInteger a = new BigInteger("-123456789012345678901234567890123456");
        BigInteger m = new BigInteger("9".repeat(35) + "7");
        due(a.modPow(new BigInteger("-" + NINES), m).toString(),
                () -> holding(a.toString(), "-" + NINES, m.toString()).bigPower(0, 1, 2));
    }

    private static void jammedAheadOfMissed() {
        says(TERMS, "JAMMED ahead of MISSED.");
        due("jammed", () -> holding("0", "0").bigInverse(0, 1));
        due("jammed", () -> holding("2", "-4").bigInverse(0, 1));
        due("jammed", () -> holding("0", "-1", "0").bigPower(0, 1, 2));
        due("jammed", () -> holding("2", "-1", "-4").bigPower(0, 1, 2));
        says(TERMS, "An exception comes ahead of JAMMED");
        refused(INDEX, () -> holding("2", "0"), x -> x.bigMod(6, 1));
        refused(INDEX, () -> holding("2", "0"), x -> x.bigInverse(6, 1));
        refused(INDEX, () -> holding("2", "0"), x -> x.bigPower(6, 0, 1));
        refused(INDEX, () -> holding("2", "0"), x -> x.bigPower(0, 6, 1));
    }
}
