/** Promise by promise: ordinary inputs, the edges that the document names, and wrong inputs. */
public final class PromiseTest extends Checks {

    public static void main(String[] args) {
        newObject();
        dialAndSet();
        lengthen();
        plusAndTimes();
        negate();
        round();
        roundPowers();
        congruences();
        baseRow();
        undoing();
        undoingBringsAllBack();
        numbers();
        bigNumbers();
        asksOfTheDial();
        solutions();
        unitsAndGenerators();
        powerRows();
        roots();
        symbols();
        joining();
        clashes();
        backs();
        booksCount();
        digests();
        exceptionsFirst();
        end("all promises hold");
    }

    private static void newObject() {
        Clockhouse x = new Clockhouse();
        due(1, 12, () -> x.size());
        for (int i = 0; i < 6; i++) {
            int slot = i;
            due(1, "0", () -> x.number(slot));
        }
        due(1, 0, () -> x.rows());
        due(1, 0, () -> x.bases());
        for (int what = 0; what < 4; what++) {
            int w = what;
            due(1, 0, () -> x.books(w));
        }
    }

    private static void dialAndSet() {
        Clockhouse x = new Clockhouse();
        due(2, 12, () -> x.dial(-9));
        due(2, -9, () -> x.dial(-8));
        due(2, -8, () -> x.dial(400));
        due(2, 3, () -> x.books(3));
        due(2, ARGUMENT, () -> x.dial(401));
        due(2, ARGUMENT, () -> x.dial(-10));
        due(2, ARGUMENT, () -> x.dial(Integer.MIN_VALUE));
        due(2, 400, () -> x.size());
        due(2, 3, () -> x.books(3));
        due(3, 10, () -> x.set(0, Integer.MIN_VALUE));
        due(3, "-2147483648", () -> x.number(0));
        due(3, 10, () -> x.set(5, Integer.MAX_VALUE));
        due(3, 1, () -> x.set(0, 0));
        due(3, 9, () -> x.set(0, -999999999));
        due(3, 10, () -> x.set(0, 1000000000));
        due(3, 2, () -> x.set(1, -12));
        due(3, "-12", () -> x.number(1));
        for (int slot : NO_SLOTS) {
            due(3, INDEX, () -> x.set(slot, 1));
        }
    }

    private static void lengthen() {
        Clockhouse x = new Clockhouse();
        due(4, 1, () -> x.lengthen(0, 0));
        due(4, 1, () -> x.lengthen(0, 7));
        due(4, 10, () -> x.lengthen(0, 999999999));
        due(4, "7999999999", () -> x.number(0));
        x.set(1, -1);
        due(4, 1, () -> x.lengthen(1, 999999999));
        due(4, "-1", () -> x.number(1));
        due(4, 10, () -> x.lengthen(1, 0));
        due(4, 19, () -> x.lengthen(1, 0));
        due(4, 28, () -> x.lengthen(1, 0));
        due(4, STATE, () -> x.lengthen(1, 0));
        due(4, "-1000000000000000000000000000", () -> x.number(1));
        due(4, 36, () -> x.lengthen(1, 1));
        due(4, "-" + NINES, () -> x.number(1));
        x.set(2, 1);
        for (int i = 0; i < 3; i++) {
            x.lengthen(2, 0);
        }
        due(4, STATE, () -> x.lengthen(2, 0));
        due(4, ARGUMENT, () -> x.lengthen(2, -1));
        due(4, ARGUMENT, () -> x.lengthen(2, 1000000000));
        for (int slot : NO_SLOTS) {
            due(4, INDEX, () -> x.lengthen(slot, -1));
        }
    }

    private static void plusAndTimes() {
        Clockhouse x = new Clockhouse();
        put(x, 0, NINES);
        x.set(1, 1);
        x.set(2, -1);
        due(5, STATE, () -> x.plus(0, 1));
        due(5, NINES, () -> x.number(0));
        due(5, 36, () -> x.plus(0, 2));
        due(5, 36, () -> x.plus(0, 1));
        due(5, STATE, () -> x.plus(0, 0));
        due(5, 1, () -> x.plus(1, 2));
        due(5, "0", () -> x.number(1));
        due(5, 1, () -> x.plus(2, 2));
        due(5, "-2", () -> x.number(2));
        put(x, 3, "-1000000000000000000");
        x.set(4, 1);
        due(5, 18, () -> x.plus(3, 4));
        due(5, "-999999999999999999", () -> x.number(3));
        due(6, 36, () -> x.times(3, 3));
        due(6, "999999999999999998000000000000000001", () -> x.number(3));
        due(6, STATE, () -> x.times(3, 2));
        due(6, "999999999999999998000000000000000001", () -> x.number(3));
        x.set(5, 0);
        due(6, 1, () -> x.times(3, 5));
        due(6, "0", () -> x.number(3));
        put(x, 3, "-1000000000000000000");
        due(6, STATE, () -> x.times(3, 3));
        put(x, 4, "123456789012345678");
        due(6, 36, () -> x.times(3, 4));
        due(6, "-123456789012345678000000000000000000", () -> x.number(3));
        for (int slot : NO_SLOTS) {
            due(5, INDEX, () -> x.plus(slot, 0));
            due(5, INDEX, () -> x.plus(0, slot));
            due(6, INDEX, () -> x.times(slot, 0));
            due(6, INDEX, () -> x.times(0, slot));
        }
    }

    private static void negate() {
        Clockhouse x = with(12, 5, -5);
        due(7, -1, () -> x.negate(0));
        due(7, 1, () -> x.negate(1));
        due(7, 0, () -> x.negate(2));
        due(7, "-5", () -> x.number(0));
        due(7, "5", () -> x.number(1));
        due(7, "0", () -> x.number(2));
        due(7, 6, () -> x.books(3));
        for (int slot : NO_SLOTS) {
            due(7, INDEX, () -> x.negate(slot));
        }
    }

    private static void round() {
        Clockhouse x = with(12, -1, 24, 7, 13);
        due(8, 11, () -> x.reduce(0));
        due(8, "11", () -> x.number(0));
        due(8, 0, () -> x.reduce(1));
        due(9, 8, () -> x.roundPlus(2, 3));
        due(9, "8", () -> x.number(2));
        due(9, 2, () -> x.roundPlus(3, 3));
        due(10, 10, () -> x.roundTimes(0, 3));
        due(10, 4, () -> x.roundTimes(0, 0));
        put(x, 4, NINES);
        x.dial(397);
        due(10, new java.math.BigInteger(NINES).pow(2).mod(java.math.BigInteger.valueOf(397)).intValue(),
                () -> x.roundTimes(4, 4));
        x.set(5, -3);
        x.set(4, 2);
        due(10, 391, () -> x.roundTimes(4, 5));
        x.dial(1);
        due(8, 0, () -> x.reduce(5));
        due(9, 0, () -> x.roundPlus(5, 4));
        for (int jam = -9; jam <= 0; jam++) {
            x.dial(jam);
            due(8, -9, () -> x.reduce(2));
            due(9, -9, () -> x.roundPlus(2, 3));
            due(10, -9, () -> x.roundTimes(2, 3));
            due(11, -9, () -> x.roundPower(2, 3));
            due(12, -9, () -> x.roundInverse(2));
        }
        due(8, "8", () -> x.number(2));
        due(59, 50, () -> x.books(0));
        for (int slot : NO_SLOTS) {
            due(8, INDEX, () -> x.reduce(slot));
            due(9, INDEX, () -> x.roundPlus(slot, 0));
            due(9, INDEX, () -> x.roundPlus(0, slot));
            due(10, INDEX, () -> x.roundTimes(slot, 0));
            due(10, INDEX, () -> x.roundTimes(0, slot));
            due(11, INDEX, () -> x.roundPower(slot, 0));
            due(11, INDEX, () -> x.roundPower(0, slot));
            due(12, INDEX, () -> x.roundInverse(slot));
        }
        due(59, 50, () -> x.books(0));
    }

    private static void roundPowers() {
        Clockhouse x = with(12, 2, 5, -1, 0, 3);
        due(11, -8, () -> x.roundPower(0, 2));
        due(11, "2", () -> x.number(0));
        due(11, 1, () -> x.roundPower(0, 3));
        due(11, 5, () -> x.roundPower(1, 4));
        due(11, 5, () -> x.roundPower(1, 2));
        due(11, 3, () -> x.roundPower(4, 4));
        due(12, -8, () -> x.roundInverse(4));
        due(12, -8, () -> x.roundInverse(3));
        x.set(0, 19);
        due(12, 7, () -> x.roundInverse(0));
        due(12, "7", () -> x.number(0));
        due(59, 3, () -> x.books(1));
        x.dial(1);
        due(11, 0, () -> x.roundPower(4, 2));
        due(12, 0, () -> x.roundInverse(3));
        due(59, 3, () -> x.books(1));
    }

    private static void congruences() {
        Clockhouse x = new Clockhouse();
        due(13, 0, () -> x.tell(-9999, 999));
        due(45, 990, () -> x.ofRow(0, 0));
        due(45, 999, () -> x.ofRow(0, 1));
        due(13, 1, () -> x.tell(9999, 1));
        due(45, 0, () -> x.ofRow(1, 0));
        due(13, ARGUMENT, () -> x.tell(-10000, 1));
        due(13, ARGUMENT, () -> x.tell(10000, 1));
        due(13, ARGUMENT, () -> x.tell(0, 0));
        due(13, ARGUMENT, () -> x.tell(0, 1000));
        due(14, true, () -> x.tellIf(0, 2));
        due(14, false, () -> x.tellIf(1, 2));
        due(14, true, () -> x.tellIf(-2, 4));
        due(14, ARGUMENT, () -> x.tellIf(-10000, 1));
        due(14, ARGUMENT, () -> x.tellIf(0, 1000));
        due(44, 4, () -> x.rows());
        due(45, 2, () -> x.ofRow(3, 0));
        due(59, 4, () -> x.books(3));
        due(13, 4, () -> x.tell(1, 2));
        due(14, false, () -> x.tellIf(0, 1));
        due(13, 5, () -> x.tell(5, 7));
        due(13, STATE, () -> x.tell(5, 7));
        due(14, STATE, () -> x.tellIf(1, 2));
        due(13, ARGUMENT, () -> x.tell(5, 0));
        due(14, ARGUMENT, () -> x.tellIf(10000, 7));
        due(15, INDEX, () -> x.drop(6));
        due(15, INDEX, () -> x.drop(-1));
        due(15, 5, () -> x.drop(0));
        due(45, 1, () -> x.ofRow(0, 1));
        due(45, 7, () -> x.ofRow(4, 1));
        due(15, 4, () -> x.drop(4));
        due(15, 3, () -> x.drop(1));
        due(45, 4, () -> x.ofRow(1, 1));
        due(15, INDEX, () -> x.drop(3));
        due(44, 3, () -> x.rows());
        due(45, INDEX, () -> x.ofRow(3, 0));
        due(45, INDEX, () -> x.ofRow(-1, 9));
        due(45, ARGUMENT, () -> x.ofRow(0, 2));
        due(45, ARGUMENT, () -> x.ofRow(0, -1));
    }

    private static void baseRow() {
        Clockhouse x = new Clockhouse();
        due(17, STATE, () -> x.unbase());
        due(16, 0, () -> x.base(999));
        due(16, STATE, () -> x.base(999));
        due(16, STATE, () -> x.base(3));
        due(16, 1, () -> x.base(2));
        due(16, ARGUMENT, () -> x.base(1));
        due(16, ARGUMENT, () -> x.base(1000));
        due(16, 2, () -> x.base(5));
        due(16, 3, () -> x.base(7));
        due(16, 4, () -> x.base(11));
        due(16, STATE, () -> x.base(13));
        due(16, ARGUMENT, () -> x.base(-13));
        due(53, 5, () -> x.bases());
        due(54, "769230", () -> x.span());
        due(17, 11, () -> x.unbase());
        due(17, 7, () -> x.unbase());
        due(53, 3, () -> x.bases());
        due(59, 7, () -> x.books(3));
    }

    private static void undoing() {
        Clockhouse x = new Clockhouse();
        due(18, STATE, () -> x.undo());
        for (int i = 1; i <= 14; i++) {
            x.set(0, i);
        }
        due(59, 12, () -> x.books(3));
        for (int i = 11; i >= 0; i--) {
            int left = i;
            due(18, left, () -> x.undo());
            due(18, String.valueOf(left + 2), () -> x.number(0));
        }
        due(18, STATE, () -> x.undo());
        due(18, "2", () -> x.number(0));
        x.dial(0);
        x.reduce(0);
        x.dial(4);
        x.set(0, 2);
        x.roundInverse(0);
        x.tell(1, 2);
        x.tellIf(0, 2);
        x.knock();
        due(59, 4, () -> x.books(3));
        for (int i = 0; i < 4; i++) {
            x.undo();
        }
        due(18, 12, () -> x.size());
        due(59, 1, () -> x.books(0));
        due(59, 1, () -> x.books(1));
        due(59, 1, () -> x.books(2));
        due(19, 2, () -> x.knock());
    }

    /** One after the other all changes are made and undone again. */
    private static void undoingBringsAllBack() {
        Clockhouse x = with(12, 5, -7, 11);
        x.tell(1, 3);
        x.base(7);
        Call[] changes = {
            () -> x.dial(12), () -> x.set(0, 5), () -> x.lengthen(0, 3), () -> x.plus(0, 1), () -> x.times(0, 1),
            () -> x.negate(0), () -> x.reduce(1), () -> x.roundPlus(0, 1), () -> x.roundTimes(0, 1),
            () -> x.roundPower(0, 1), () -> x.roundInverse(1), () -> x.tell(2, 3), () -> x.tellIf(4, 6),
            () -> x.drop(0), () -> x.base(2), () -> x.unbase(), () -> x.dial(-9), () -> x.negate(5)};
        for (Call change : changes) {
            int before = x.books(3);
            long digest = x.digest();
            change.make();
            due(18, before + 1, () -> x.books(3));
            due(18, before, () -> x.undo());
            due(18, digest, () -> x.digest());
        }
        Call[] noChanges = {
            () -> x.set(6, 0), () -> x.lengthen(0, -1), () -> x.dial(500), () -> x.tellIf(0, 3), () -> x.drop(7),
            () -> x.base(7), () -> x.knock(), () -> x.isSound(), () -> x.digest(), () -> x.wouldJoin(0, 3)};
        int before = x.books(3);
        for (Call call : noChanges) {
            try {
                call.make();
            } catch (RuntimeException e) {
                // refused, as it should be
            }
            due(18, before, () -> x.books(3));
        }
    }

    private static void numbers() {
        Clockhouse x = new Clockhouse();
        String[] texts = {"1000000000", "-1000000000", "1000000000000000001", "999999999", NINES, "-" + NINES,
            "100000000000000000000000000000000000", "-10", "0"};
        for (String text : texts) {
            put(x, 3, text);
            due(20, text, () -> x.number(3));
            due(21, text.replace("-", "").length(), () -> x.digits(3));
        }
        for (int slot : NO_SLOTS) {
            due(20, INDEX, () -> x.number(slot));
            due(21, INDEX, () -> x.digits(slot));
        }
    }

    private static void bigNumbers() {
        Clockhouse x = new Clockhouse();
        put(x, 0, "-340282366920938463463374607431768211");
        put(x, 1, "170141183460469231731687303715884105");
        put(x, 2, "1000000007");
        x.set(3, -6);
        x.set(4, 1);
        due(22, "1", () -> x.bigGcd(0, 1));
        due(22, "6", () -> x.bigGcd(3, 5));
        due(22, "6", () -> x.bigGcd(5, 3));
        due(22, "0", () -> x.bigGcd(5, 5));
        due(22, "170141183460469231731687303715884105", () -> x.bigGcd(1, 1));
        due(23, "170141183460469231731687303715884104", () -> x.bigMod(0, 1));
        due(23, "jammed", () -> x.bigMod(0, 5));
        due(23, "jammed", () -> x.bigMod(0, 3));
        due(23, "0", () -> x.bigMod(0, 4));
        due(23, "1000000001", () -> x.bigMod(3, 2));
        due(24, "166666668", () -> {
            x.negate(3);
            return x.bigInverse(3, 2);
        });
        due(24, "jammed", () -> x.bigInverse(3, 5));
        due(24, "jammed", () -> x.bigInverse(5, 0));
        due(24, "missed", () -> x.bigInverse(5, 3));
        due(24, "missed", () -> x.bigInverse(3, 3));
        due(24, "0", () -> x.bigInverse(5, 4));
        due(24, "1", () -> x.bigInverse(4, 3));
        due(25, "1", () -> x.bigPower(0, 5, 1));
        due(25, "0", () -> x.bigPower(0, 5, 4));
        due(25, "1", () -> x.bigPower(5, 5, 2));
        due(25, "0", () -> x.bigPower(5, 4, 2));
        due(25, "jammed", () -> x.bigPower(5, 0, 5));
        due(25, "missed", () -> x.bigPower(5, 0, 2));
        due(25, "0", () -> x.bigPower(5, 0, 4));
        x.set(3, -1);
        due(25, "142857144", () -> {
            x.set(4, 7);
            return x.bigPower(4, 3, 2);
        });
        put(x, 5, "1000000006");
        due(25, "1", () -> x.bigPower(4, 5, 2));
        for (int slot : NO_SLOTS) {
            due(22, INDEX, () -> x.bigGcd(slot, 0));
            due(22, INDEX, () -> x.bigGcd(0, slot));
            due(23, INDEX, () -> x.bigMod(slot, 0));
            due(23, INDEX, () -> x.bigMod(0, slot));
            due(24, INDEX, () -> x.bigInverse(slot, 0));
            due(24, INDEX, () -> x.bigInverse(0, slot));
            due(25, INDEX, () -> x.bigPower(slot, 0, 0));
            due(25, INDEX, () -> x.bigPower(0, slot, 0));
            due(25, INDEX, () -> x.bigPower(0, 0, slot));
        }
    }

    private static void asksOfTheDial() {
        Clockhouse x = with(12, -5, 8, 0, 30, -1, 3);
        due(26, 12, () -> x.size());
        due(27, 7, () -> x.mod(0));
        due(27, 0, () -> x.mod(2));
        due(28, 1, () -> x.gcd(0));
        due(28, 4, () -> x.gcd(1));
        due(28, 12, () -> x.gcd(2));
        due(28, 6, () -> x.gcd(3));
        due(29, 7, () -> x.power(0, 4));
        due(29, -8, () -> x.power(1, 4));
        due(29, 8, () -> x.power(1, 5));
        due(29, 1, () -> x.power(2, 2));
        due(30, 7, () -> x.inverse(0));
        due(30, -8, () -> x.inverse(1));
        due(30, -8, () -> x.inverse(2));
        put(x, 3, NINES);
        due(29, 8, () -> x.power(1, 3));
        x.dial(1);
        due(29, 0, () -> x.power(2, 2));
        due(29, 0, () -> x.power(2, 4));
        due(30, 0, () -> x.inverse(2));
        x.dial(-3);
        due(26, -3, () -> x.size());
        due(27, -9, () -> x.mod(0));
        due(28, -9, () -> x.gcd(0));
        due(29, -9, () -> x.power(0, 2));
        due(30, -9, () -> x.inverse(0));
        for (int slot : NO_SLOTS) {
            due(27, INDEX, () -> x.mod(slot));
            due(28, INDEX, () -> x.gcd(slot));
            due(29, INDEX, () -> x.power(slot, 0));
            due(29, INDEX, () -> x.power(0, slot));
            due(30, INDEX, () -> x.inverse(slot));
        }
    }

    private static void solutions() {
        Clockhouse x = with(12, 8, 4, 3, 0, -4);
        due(31, 4, () -> x.solutions(0, 1));
        due(31, 0, () -> x.solutions(0, 2));
        due(31, 12, () -> x.solutions(3, 3));
        due(31, 0, () -> x.solutions(3, 1));
        due(31, 4, () -> x.solutions(0, 4));
        due(32, 2, () -> x.solution(0, 1, 0));
        due(32, 11, () -> x.solution(0, 1, 3));
        due(32, -1, () -> x.solution(0, 1, 4));
        due(32, 1, () -> x.solution(0, 4, 0));
        due(32, -1, () -> x.solution(0, 2, 0));
        due(32, -1, () -> x.solution(0, 1, Integer.MAX_VALUE));
        due(32, ARGUMENT, () -> x.solution(0, 1, -1));
        x.dial(1);
        due(31, 1, () -> x.solutions(0, 2));
        due(32, 0, () -> x.solution(0, 2, 0));
        x.dial(0);
        due(31, -9, () -> x.solutions(0, 1));
        due(32, -9, () -> x.solution(0, 1, 9));
        due(32, ARGUMENT, () -> x.solution(0, 1, -1));
        for (int slot : NO_SLOTS) {
            due(31, INDEX, () -> x.solutions(slot, 0));
            due(31, INDEX, () -> x.solutions(0, slot));
            due(32, INDEX, () -> x.solution(slot, 0, -1));
            due(32, INDEX, () -> x.solution(0, slot, -1));
        }
    }

    private static void unitsAndGenerators() {
        Clockhouse x = with(14, 3, 5, 13, 2, 17);
        due(33, 6, () -> x.units());
        due(34, 6, () -> x.order(0));
        due(34, 2, () -> x.order(2));
        due(34, 0, () -> x.order(3));
        due(34, 0, () -> x.order(5));
        due(35, 3, () -> x.generator(0));
        due(35, 5, () -> x.generator(1));
        due(35, -1, () -> x.generator(2));
        due(35, ARGUMENT, () -> x.generator(-1));
        due(36, true, () -> x.isGenerator(0));
        due(36, true, () -> x.isGenerator(4));
        due(36, false, () -> x.isGenerator(2));
        due(36, false, () -> x.isGenerator(3));
        x.dial(8);
        due(33, 4, () -> x.units());
        due(35, -1, () -> x.generator(0));
        x.dial(1);
        due(33, 1, () -> x.units());
        due(34, 1, () -> x.order(5));
        due(35, 0, () -> x.generator(0));
        due(36, true, () -> x.isGenerator(0));
        x.dial(2);
        due(35, 1, () -> x.generator(0));
        due(36, false, () -> x.isGenerator(3));
        x.dial(0);
        due(33, -9, () -> x.units());
        due(34, -9, () -> x.order(0));
        due(35, -9, () -> x.generator(0));
        due(35, ARGUMENT, () -> x.generator(-1));
        due(36, false, () -> x.isGenerator(0));
        for (int slot : NO_SLOTS) {
            due(34, INDEX, () -> x.order(slot));
            due(36, INDEX, () -> x.isGenerator(slot));
        }
    }

    private static void powerRows() {
        Clockhouse x = with(12, 2, 5, 0, -1);
        due(37, "1 2 4 8", () -> x.powers(0));
        due(37, "1 5", () -> x.powers(1));
        due(37, "1 0", () -> x.powers(2));
        due(37, "1 11", () -> x.powers(3));
        due(38, 4, () -> x.ofPowers(0, 0));
        due(38, 2, () -> x.ofPowers(0, 1));
        due(38, 2, () -> x.ofPowers(0, 2));
        due(38, 15, () -> x.ofPowers(0, 3));
        due(38, 0, () -> x.ofPowers(1, 1));
        due(38, ARGUMENT, () -> x.ofPowers(0, 4));
        due(38, ARGUMENT, () -> x.ofPowers(0, -1));
        x.dial(397);
        x.set(0, 5);
        due(38, 396, () -> x.ofPowers(0, 0));
        due(38, 396 * 397 / 2, () -> x.ofPowers(0, 3));
        due(37, 396, () -> x.powers(0).split(" ").length);
        x.dial(1);
        due(37, "0", () -> x.powers(0));
        due(38, 1, () -> x.ofPowers(0, 0));
        due(38, 0, () -> x.ofPowers(0, 1));
        x.dial(0);
        due(37, "jammed", () -> x.powers(0));
        due(38, -9, () -> x.ofPowers(0, 3));
        due(38, ARGUMENT, () -> x.ofPowers(0, 4));
        for (int slot : NO_SLOTS) {
            due(37, INDEX, () -> x.powers(slot));
            due(38, INDEX, () -> x.ofPowers(slot, 4));
        }
    }

    private static void roots() {
        Clockhouse x = with(12, 4, 13, 2, -8);
        due(39, 4, () -> x.roots(0));
        due(39, 4, () -> x.roots(1));
        due(39, 0, () -> x.roots(2));
        due(40, 2, () -> x.root(0, 0));
        due(40, 4, () -> x.root(0, 1));
        due(40, 10, () -> x.root(0, 3));
        due(40, -1, () -> x.root(0, 4));
        due(40, 1, () -> x.root(1, 0));
        due(40, 11, () -> x.root(1, 3));
        due(40, -1, () -> x.root(1, 4));
        due(40, -1, () -> x.root(2, 0));
        due(40, 2, () -> x.root(3, 0));
        due(40, ARGUMENT, () -> x.root(0, -1));
        x.dial(1);
        due(39, 1, () -> x.roots(2));
        due(40, 0, () -> x.root(2, 0));
        x.dial(-1);
        due(39, -9, () -> x.roots(0));
        due(40, -9, () -> x.root(0, 0));
        due(40, ARGUMENT, () -> x.root(0, -1));
        for (int slot : NO_SLOTS) {
            due(39, INDEX, () -> x.roots(slot));
            due(40, INDEX, () -> x.root(slot, -1));
        }
    }

    private static void symbols() {
        Clockhouse x = with(7, 2, 3, 14, -1);
        due(41, true, () -> x.isPrime());
        due(42, 1, () -> x.legendre(0));
        due(42, -1, () -> x.legendre(1));
        due(42, 0, () -> x.legendre(2));
        due(42, -1, () -> x.legendre(3));
        due(43, -1, () -> x.jacobi(3));
        x.dial(9);
        due(41, false, () -> x.isPrime());
        due(42, -8, () -> x.legendre(0));
        due(43, 1, () -> x.jacobi(0));
        due(43, 0, () -> x.jacobi(1));
        x.dial(27);
        due(43, -1, () -> x.jacobi(0));
        x.dial(15);
        due(43, 1, () -> x.jacobi(0));
        due(43, -1, () -> x.jacobi(2));
        x.dial(2);
        due(41, true, () -> x.isPrime());
        due(42, -8, () -> x.legendre(0));
        due(43, -8, () -> x.jacobi(0));
        x.dial(1);
        due(41, false, () -> x.isPrime());
        due(42, -8, () -> x.legendre(0));
        due(43, 1, () -> x.jacobi(0));
        x.dial(-7);
        due(41, false, () -> x.isPrime());
        due(42, -9, () -> x.legendre(0));
        due(43, -9, () -> x.jacobi(0));
        x.dial(0);
        due(43, -9, () -> x.jacobi(0));
        for (int slot : NO_SLOTS) {
            due(42, INDEX, () -> x.legendre(slot));
            due(43, INDEX, () -> x.jacobi(slot));
        }
    }

    private static void joining() {
        Clockhouse x = new Clockhouse();
        due(47, true, () -> x.isJoined());
        due(49, "0", () -> x.answer());
        due(50, "1", () -> x.answerDial());
        int[] sizes = {999, 998, 997, 995, 991, 989};
        for (int i = 0; i < 6; i++) {
            x.tell(-1, sizes[i]);
        }
        java.math.BigInteger whole = java.math.BigInteger.ONE;
        for (int size : sizes) {
            whole = whole.multiply(java.math.BigInteger.valueOf(size));
        }
        String last = whole.subtract(java.math.BigInteger.ONE).toString();
        String all = whole.toString();
        due(47, true, () -> x.isJoined());
        due(49, last, () -> x.answer());
        due(50, all, () -> x.answerDial());
        due(48, true, () -> x.wouldJoin(-1, 983));
        due(48, true, () -> x.wouldJoin(-1, 999));
        due(48, false, () -> x.wouldJoin(0, 3));
        due(48, ARGUMENT, () -> x.wouldJoin(0, 0));
        due(48, ARGUMENT, () -> x.wouldJoin(0, 1000));
        due(48, ARGUMENT, () -> x.wouldJoin(-10000, 5));
        due(48, ARGUMENT, () -> x.wouldJoin(10000, 5));
        due(44, 6, () -> x.rows());
        x.drop(5);
        x.tell(0, 3);
        due(47, false, () -> x.isJoined());
        due(48, false, () -> x.wouldJoin(0, 1));
        due(49, "none", () -> x.answer());
        due(50, whole.divide(java.math.BigInteger.valueOf(989)).toString(), () -> x.answerDial());
        Clockhouse y = new Clockhouse();
        y.tell(3, 4);
        y.tell(5, 6);
        due(49, "11", () -> y.answer());
        due(50, "12", () -> y.answerDial());
    }

    private static void clashes() {
        Clockhouse x = new Clockhouse();
        due(51, -1, () -> x.clash(0));
        due(51, -1, () -> x.clash(1));
        x.tell(0, 5);
        x.tell(1, 4);
        x.tell(0, 3);
        x.tell(0, 2);
        x.tell(1, 9);
        x.tell(2, 8);
        due(51, 1, () -> x.clash(0));
        due(51, 3, () -> x.clash(1));
        due(51, ARGUMENT, () -> x.clash(2));
        due(51, ARGUMENT, () -> x.clash(-1));
        due(46, true, () -> x.agree(1, 1));
        due(46, false, () -> x.agree(3, 1));
        due(46, false, () -> x.agree(2, 4));
        due(46, true, () -> x.agree(0, 5));
        due(46, INDEX, () -> x.agree(0, 6));
        due(46, INDEX, () -> x.agree(-1, 0));
        x.set(0, -15);
        due(52, 3, () -> x.broken(0));
        x.set(1, 1);
        due(52, 0, () -> x.broken(1));
        x.drop(3);
        x.set(2, 45);
        due(52, 3, () -> x.broken(2));
        x.drop(3);
        x.drop(3);
        due(52, -1, () -> x.broken(2));
        for (int slot : NO_SLOTS) {
            due(52, INDEX, () -> x.broken(slot));
        }
    }

    private static void backs() {
        Clockhouse x = with(12, 23, -1000);
        due(54, "1", () -> x.span());
        due(55, "", () -> x.residues(0));
        due(56, "0", () -> x.back(0));
        due(57, "0", () -> x.sumBack(0, 1));
        due(58, "0", () -> x.productBack(0, 1));
        x.base(7);
        x.base(11);
        x.base(13);
        due(55, "2,1,10", () -> x.residues(0));
        due(55, "1,1,1", () -> x.residues(1));
        due(55, "0,0,0", () -> x.residues(5));
        due(56, "1", () -> x.back(1));
        due(57, "24", () -> x.sumBack(0, 1));
        due(57, "46", () -> x.sumBack(0, 0));
        due(58, "23", () -> x.productBack(0, 1));
        due(58, "529", () -> x.productBack(0, 0));
        for (int i = 0; i < 3; i++) {
            x.unbase();
        }
        int[] bases = {999, 998, 997, 995, 991};
        for (int base : bases) {
            x.base(base);
        }
        x.set(2, -1);
        due(54, "980139570578730", () -> x.span());
        due(55, "998,997,996,994,990", () -> x.residues(2));
        due(56, "980139570578729", () -> x.back(2));
        due(57, "980139570578728", () -> x.sumBack(2, 2));
        due(58, "1", () -> x.productBack(2, 2));
        for (int slot : NO_SLOTS) {
            due(55, INDEX, () -> x.residues(slot));
            due(56, INDEX, () -> x.back(slot));
            due(57, INDEX, () -> x.sumBack(slot, 0));
            due(57, INDEX, () -> x.sumBack(0, slot));
            due(58, INDEX, () -> x.productBack(slot, 0));
            due(58, INDEX, () -> x.productBack(0, slot));
        }
    }

    private static void booksCount() {
        Clockhouse x = with(4, 2, -1);
        x.roundInverse(0);
        x.roundPower(0, 1);
        x.inverse(0);
        x.power(0, 1);
        x.bigInverse(0, 0);
        x.legendre(0);
        x.dial(0);
        x.reduce(0);
        x.mod(0);
        x.bigMod(0, 1);
        due(19, 1, () -> x.knock());
        due(19, 2, () -> x.knock());
        due(19, 3, () -> x.knock());
        due(59, 1, () -> x.books(0));
        due(59, 2, () -> x.books(1));
        due(59, 3, () -> x.books(2));
        due(59, 4, () -> x.books(3));
        due(59, ARGUMENT, () -> x.books(4));
        due(59, ARGUMENT, () -> x.books(-1));
        due(60, true, () -> x.isSound());
    }

    private static void digests() {
        Clockhouse x = new Clockhouse();
        due(61, 5067572145058207214L, () -> x.digest());
        due(60, true, () -> x.isSound());
        for (int dial = -9; dial <= 400; dial++) {
            Clockhouse y = with(dial, dial - 3, 7, -dial, 2147483647, -1, dial % 5 - 2);
            y.base(2 + (dial + 9) % 200);
            y.tell(dial, 1 + (dial + 9) % 50);
            y.tell(3, 12);
            due(60, true, () -> y.isSound());
        }
    }

    /** Of several exceptions the one named first, and none of them changes anything. */
    private static void exceptionsFirst() {
        Clockhouse x = new Clockhouse();
        put(x, 0, NINES);
        long digest = x.digest();
        due(4, ARGUMENT, () -> x.lengthen(0, -1));
        due(4, STATE, () -> x.lengthen(0, 0));
        due(4, INDEX, () -> x.lengthen(6, -1));
        due(5, STATE, () -> x.plus(0, 0));
        due(6, STATE, () -> x.times(0, 0));
        due(5, INDEX, () -> x.plus(0, 6));
        due(32, INDEX, () -> x.solution(0, 6, -1));
        due(40, INDEX, () -> x.root(6, -1));
        due(38, INDEX, () -> x.ofPowers(-1, 9));
        due(45, INDEX, () -> x.ofRow(0, 9));
        due(61, digest, () -> x.digest());
    }
}
