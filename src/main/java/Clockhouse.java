/** Numbers round a dial: see the document, whose promises the public methods keep. */
public final class Clockhouse {

    private static final int NONE = -1;
    private static final int MISSED = -8;
    private static final int JAMMED = -9;

    private static final int SLOTS = 6;
    private static final int FIRST_DIAL = 12;
    private static final int LOWEST_DIAL = -9;
    private static final int HIGHEST_DIAL = 400;
    private static final int MOST_ROWS = 6;
    private static final int MOST_BASES = 5;
    private static final int HIGHEST_SIZE = 999;
    private static final int FARTHEST_REST = 9999;
    private static final int MOST_UNDONE = 12;

    /** A limb holds nine decimal digits, so that four of them are the 36 digits a NUMBER may have. */
    private static final int LIMB = 1000000000;
    private static final int LIMB_DIGITS = 9;
    private static final int NUMBER_LIMBS = 4;
    /** Room for the product of two NUMBERS and for the limb by which a division scales it up. */
    private static final int ROOM = 10;

    /** Far above the steps that Euclid's way needs for two numbers of 36 digits (some 175). */
    private static final int EUCLID_STEPS = 1000;
    /** Above the binary digits of a number of 36 decimal ones (120). */
    private static final int EXPONENT_BITS = 200;

    private static final long DIGEST_START = 4906;
    private static final long DIGEST_FACTOR = 31;

    private final State state = new State();
    private final Past past = new Past();
    private int jams;
    private int misses;
    private int knocks;

    // What follows is scratch that calls use again, so that no call needs objects of its own.
    private final Big work = new Big();
    private final Big extra = new Big();
    private final Big spanWork = new Big();
    private final BigRound bigRound = new BigRound();
    private final PowerRow powerRow = new PowerRow();
    private final Generators generators = new Generators();
    private final Joiner joiner = new Joiner();
    private final StringBuilder builder = new StringBuilder();

    public Clockhouse() {
        state.dial = FIRST_DIAL;
    }

    // ---- changes of numbers

    public int dial(int size) throws IllegalArgumentException {
        if (size < LOWEST_DIAL || size > HIGHEST_DIAL) {
            throw new IllegalArgumentException("the dial is -9 to 400");
        }
        past.keep(state);
        int before = state.dial;
        state.dial = size;
        return before;
    }

    public int set(int slot, int value) throws IndexOutOfBoundsException {
        Big n = numberAt(slot);
        past.keep(state);
        n.becomeLong(value);
        return n.digitCount();
    }

    public int lengthen(int slot, int more)
            throws IndexOutOfBoundsException, IllegalArgumentException, IllegalStateException {
        Big n = numberAt(slot);
        if (more < 0 || more >= LIMB) {
            throw new IllegalArgumentException("what comes behind is 0 to 999999999");
        }
        extra.becomeLong(LIMB);
        work.becomeProduct(n, extra);
        extra.becomeLong(more);
        work.becomeSum(work, extra);
        return putNumber(n, work);
    }

    public int plus(int slot, int other) throws IndexOutOfBoundsException, IllegalStateException {
        Big n = numberAt(slot);
        Big o = numberAt(other);
        work.becomeSum(n, o);
        return putNumber(n, work);
    }

    public int times(int slot, int other) throws IndexOutOfBoundsException, IllegalStateException {
        Big n = numberAt(slot);
        Big o = numberAt(other);
        work.becomeProduct(n, o);
        return putNumber(n, work);
    }

    public int negate(int slot) throws IndexOutOfBoundsException {
        Big n = numberAt(slot);
        past.keep(state);
        n.sign = -n.sign;
        return n.sign;
    }

    // ---- changes round the dial

    public int reduce(int slot) throws IndexOutOfBoundsException {
        return putRound(numberAt(slot), mod(slot));
    }

    public int roundPlus(int slot, int other) throws IndexOutOfBoundsException {
        Big n = numberAt(slot);
        Big o = numberAt(other);
        int m = state.dial;
        return putRound(n, m <= 0 ? JAMMED : (n.restBy(m) + o.restBy(m)) % m);
    }

    public int roundTimes(int slot, int other) throws IndexOutOfBoundsException {
        Big n = numberAt(slot);
        Big o = numberAt(other);
        int m = state.dial;
        return putRound(n, m <= 0 ? JAMMED : n.restBy(m) * o.restBy(m) % m);
    }

    public int roundPower(int slot, int exponent) throws IndexOutOfBoundsException {
        return putRound(numberAt(slot), power(slot, exponent));
    }

    public int roundInverse(int slot) throws IndexOutOfBoundsException {
        return putRound(numberAt(slot), inverse(slot));
    }

    // ---- changes of congruences and bases, undoing

    public int tell(int rest, int size) throws IllegalArgumentException, IllegalStateException {
        needCongruence(rest, size);
        needFreeRow();
        return addRow(rest, size);
    }

    public boolean tellIf(int rest, int size) throws IllegalArgumentException, IllegalStateException {
        needCongruence(rest, size);
        needFreeRow();
        joinRows();
        if (!joiner.admits(rest, size)) {
            return false;
        }
        addRow(rest, size);
        return true;
    }

    public int drop(int place) throws IndexOutOfBoundsException {
        needRow(place);
        past.keep(state);
        state.removeRow(place);
        return state.rowCount;
    }

    public int base(int size) throws IllegalArgumentException, IllegalStateException {
        if (size < 2 || size > HIGHEST_SIZE) {
            throw new IllegalArgumentException("a base is 2 to 999");
        }
        if (!state.takesBase(size)) {
            throw new IllegalStateException("there are 5, or a base has a common divisor with it");
        }
        past.keep(state);
        state.addBase(size);
        return state.baseCount - 1;
    }

    public int unbase() throws IllegalStateException {
        if (state.baseCount == 0) {
            throw new IllegalStateException("there is no base");
        }
        past.keep(state);
        return state.removeBase();
    }

    public int undo() throws IllegalStateException {
        if (past.count == 0) {
            throw new IllegalStateException("there is nothing to undo");
        }
        past.bringBack(state);
        return past.count;
    }

    public int knock() {
        knocks++;
        return knocks;
    }

    // ---- what is asked of numbers

    public String number(int slot) throws IndexOutOfBoundsException {
        return textOf(numberAt(slot));
    }

    public int digits(int slot) throws IndexOutOfBoundsException {
        return numberAt(slot).digitCount();
    }

    public String bigGcd(int slot, int other) throws IndexOutOfBoundsException {
        Big n = numberAt(slot);
        Big o = numberAt(other);
        bigRound.findGcd(n, o);
        return textOf(bigRound.found);
    }

    public String bigMod(int slot, int by) throws IndexOutOfBoundsException {
        Big n = numberAt(slot);
        Big m = numberAt(by);
        if (m.sign <= 0) {
            return "jammed";
        }
        bigRound.findRest(n, m);
        return textOf(bigRound.found);
    }

    public String bigInverse(int slot, int by) throws IndexOutOfBoundsException {
        Big n = numberAt(slot);
        Big m = numberAt(by);
        if (m.sign <= 0) {
            return "jammed";
        }
        return bigRound.findInverse(n, m) ? textOf(bigRound.found) : "missed";
    }

    public String bigPower(int slot, int exponent, int by) throws IndexOutOfBoundsException {
        Big n = numberAt(slot);
        Big e = numberAt(exponent);
        Big m = numberAt(by);
        if (m.sign <= 0) {
            return "jammed";
        }
        return bigRound.findPower(n, e, m) ? textOf(bigRound.found) : "missed";
    }

    // ---- what is asked round the dial

    public int size() {
        return state.dial;
    }

    public int mod(int slot) throws IndexOutOfBoundsException {
        Big n = numberAt(slot);
        return isJammed() ? JAMMED : n.restBy(state.dial);
    }

    public int gcd(int slot) throws IndexOutOfBoundsException {
        Big n = numberAt(slot);
        return isJammed() ? JAMMED : Round.commonOf(n.restBy(state.dial), state.dial);
    }

    public int power(int slot, int exponent) throws IndexOutOfBoundsException {
        Big n = numberAt(slot);
        Big e = numberAt(exponent);
        return isJammed() ? JAMMED : Round.raise(n.restBy(state.dial), e, state.dial);
    }

    public int inverse(int slot) throws IndexOutOfBoundsException {
        Big n = numberAt(slot);
        return isJammed() ? JAMMED : Round.invert(n.restBy(state.dial), state.dial);
    }

    public int solutions(int slot, int other) throws IndexOutOfBoundsException {
        Big a = numberAt(slot);
        Big b = numberAt(other);
        int m = state.dial;
        return isJammed() ? JAMMED : Round.countSolutions(a.restBy(m), b.restBy(m), m);
    }

    public int solution(int slot, int other, int place)
            throws IndexOutOfBoundsException, IllegalArgumentException {
        Big a = numberAt(slot);
        Big b = numberAt(other);
        needPlace(place);
        int m = state.dial;
        return isJammed() ? JAMMED : Round.solutionAt(a.restBy(m), b.restBy(m), m, place);
    }

    public int units() {
        return isJammed() ? JAMMED : Round.countUnits(state.dial);
    }

    public int order(int slot) throws IndexOutOfBoundsException {
        Big n = numberAt(slot);
        return isJammed() ? JAMMED : Round.orderOf(n.restBy(state.dial), state.dial);
    }

    public int generator(int place) throws IllegalArgumentException {
        needPlace(place);
        if (isJammed()) {
            return JAMMED;
        }
        generators.turnTo(state.dial);
        return generators.findAt(place);
    }

    public boolean isGenerator(int slot) throws IndexOutOfBoundsException {
        Big n = numberAt(slot);
        if (isJammed()) {
            return false;
        }
        generators.turnTo(state.dial);
        return generators.holds(n.restBy(state.dial));
    }

    public String powers(int slot) throws IndexOutOfBoundsException {
        Big n = numberAt(slot);
        if (isJammed()) {
            return "jammed";
        }
        powerRow.fill(n.restBy(state.dial), state.dial);
        builder.setLength(0);
        powerRow.writeTo(builder);
        return builder.toString();
    }

    public int ofPowers(int slot, int what) throws IndexOutOfBoundsException, IllegalArgumentException {
        Big n = numberAt(slot);
        if (what < 0 || what > 3) {
            throw new IllegalArgumentException("what is 0 to 3");
        }
        if (isJammed()) {
            return JAMMED;
        }
        powerRow.fill(n.restBy(state.dial), state.dial);
        return powerRow.tellOf(what);
    }

    public int roots(int slot) throws IndexOutOfBoundsException {
        Big n = numberAt(slot);
        return isJammed() ? JAMMED : Round.countRoots(n.restBy(state.dial), state.dial);
    }

    public int root(int slot, int place) throws IndexOutOfBoundsException, IllegalArgumentException {
        Big n = numberAt(slot);
        needPlace(place);
        return isJammed() ? JAMMED : Round.rootAt(n.restBy(state.dial), state.dial, place);
    }

    public boolean isPrime() {
        return Round.primeHolds(state.dial);
    }

    public int legendre(int slot) throws IndexOutOfBoundsException {
        Big n = numberAt(slot);
        if (isJammed()) {
            return JAMMED;
        }
        if (!Round.oddPrimeHolds(state.dial)) {
            return MISSED;
        }
        return Round.legendreOf(n.restBy(state.dial), state.dial);
    }

    public int jacobi(int slot) throws IndexOutOfBoundsException {
        Big n = numberAt(slot);
        if (isJammed()) {
            return JAMMED;
        }
        if (state.dial % 2 == 0) {
            return MISSED;
        }
        return Round.jacobiOf(n.restBy(state.dial), state.dial);
    }

    // ---- what is asked of congruences and bases

    public int rows() {
        return state.rowCount;
    }

    public int ofRow(int place, int what) throws IndexOutOfBoundsException, IllegalArgumentException {
        needRow(place);
        if (what != 0 && what != 1) {
            throw new IllegalArgumentException("what is 0 or 1");
        }
        return what == 0 ? state.rests[place] : state.sizes[place];
    }

    public boolean agree(int place, int other) throws IndexOutOfBoundsException {
        needRow(place);
        needRow(other);
        return state.rowsAgree(place, other);
    }

    public boolean isJoined() {
        joinRows();
        return joiner.joined;
    }

    public boolean wouldJoin(int rest, int size) throws IllegalArgumentException {
        needCongruence(rest, size);
        joinRows();
        return joiner.admits(rest, size);
    }

    public String answer() {
        joinRows();
        return joiner.joined ? textOfLong(joiner.joint) : "none";
    }

    public String answerDial() {
        joinRows();
        return textOfLong(joiner.whole);
    }

    public int clash(int what) throws IllegalArgumentException {
        if (what != 0 && what != 1) {
            throw new IllegalArgumentException("what is 0 or 1");
        }
        return clashPlace(what);
    }

    public int broken(int slot) throws IndexOutOfBoundsException {
        Big n = numberAt(slot);
        for (int i = 0; i < state.rowCount; i++) {
            if (n.restBy(state.sizes[i]) != state.rests[i]) {
                return i;
            }
        }
        return NONE;
    }

    public int bases() {
        return state.baseCount;
    }

    public String span() {
        return textOfLong(state.spanOfBases());
    }

    public String residues(int slot) throws IndexOutOfBoundsException {
        writeResidues(numberAt(slot));
        return builder.toString();
    }

    public String back(int slot) throws IndexOutOfBoundsException {
        return textOfLong(backOf(numberAt(slot)));
    }

    public String sumBack(int slot, int other) throws IndexOutOfBoundsException {
        Big n = numberAt(slot);
        Big o = numberAt(other);
        return textOfLong(backOfSum(n, o));
    }

    public String productBack(int slot, int other) throws IndexOutOfBoundsException {
        Big n = numberAt(slot);
        Big o = numberAt(other);
        return textOfLong(backOfProduct(n, o));
    }

    // ---- all of it

    public int books(int what) throws IllegalArgumentException {
        switch (what) {
            case 0:
                return jams;
            case 1:
                return misses;
            case 2:
                return knocks;
            case 3:
                return past.count;
            default:
                throw new IllegalArgumentException("what is 0 to 3");
        }
    }

    public boolean isSound() {
        return numbersFit() && (isJammed() || slotsAreSound()) && rowsAreSound() && backsAreSound();
    }

    public long digest() {
        long d = mix(DIGEST_START, state.dial);
        for (int slot = 0; slot < SLOTS; slot++) {
            d = mixNumber(d, slot);
            d = mixRound(d, slot);
            d = mixTexts(d, slot);
        }
        d = mix(d, units());
        d = mix(d, generator(0));
        d = mix(d, isPrime() ? 1 : 0);
        d = mixRows(d);
        d = mix(d, state.baseCount);
        d = mix(d, lengthOfLong(state.spanOfBases()));
        for (int what = 0; what <= 3; what++) {
            d = mix(d, books(what));
        }
        return mix(d, isSound() ? 1 : 0);
    }

    // ---- what the calls above share

    private Big numberAt(int slot) throws IndexOutOfBoundsException {
        if (slot < 0 || slot >= SLOTS) {
            throw new IndexOutOfBoundsException("a slot is 0 to 5");
        }
        return state.numbers[slot];
    }

    private boolean isJammed() {
        return state.dial <= 0;
    }

    private static void needPlace(int place) throws IllegalArgumentException {
        if (place < 0) {
            throw new IllegalArgumentException("a place is 0 or above");
        }
    }

    private static void needCongruence(int rest, int size) throws IllegalArgumentException {
        if (rest < -FARTHEST_REST || rest > FARTHEST_REST) {
            throw new IllegalArgumentException("a rest is -9999 to 9999");
        }
        if (size < 1 || size > HIGHEST_SIZE) {
            throw new IllegalArgumentException("its dial is 1 to 999");
        }
    }

    private void needFreeRow() throws IllegalStateException {
        if (state.rowCount >= MOST_ROWS) {
            throw new IllegalStateException("there are 6 congruences");
        }
    }

    private void needRow(int place) throws IndexOutOfBoundsException {
        if (place < 0 || place >= state.rowCount) {
            throw new IndexOutOfBoundsException("no congruence is at that place");
        }
    }

    private int putNumber(Big n, Big value) throws IllegalStateException {
        if (value.isTooLong()) {
            throw new IllegalStateException("a number has at most 36 digits");
        }
        past.keep(state);
        n.become(value);
        return n.digitCount();
    }

    private int putRound(Big n, int value) {
        if (value == JAMMED) {
            jams++;
            return JAMMED;
        }
        if (value == MISSED) {
            misses++;
            return MISSED;
        }
        past.keep(state);
        n.becomeLong(value);
        return value;
    }

    private int addRow(int rest, int size) {
        past.keep(state);
        state.addRow(rest, size);
        return state.rowCount - 1;
    }

    private void joinRows() {
        joiner.clear();
        for (int i = 0; i < state.rowCount; i++) {
            joiner.join(state.rests[i], state.sizes[i]);
        }
    }

    private int clashPlace(int what) {
        for (int i = 0; i < state.rowCount; i++) {
            for (int j = i + 1; j < state.rowCount; j++) {
                if (!state.rowsAgree(i, j)) {
                    return what == 0 ? i : j;
                }
            }
        }
        return NONE;
    }

    private long backOf(Big n) {
        joiner.clear();
        for (int i = 0; i < state.baseCount; i++) {
            int size = state.bases[i];
            joiner.join(n.restBy(size), size);
        }
        return joiner.joint;
    }

    private long backOfSum(Big n, Big o) {
        joiner.clear();
        for (int i = 0; i < state.baseCount; i++) {
            int size = state.bases[i];
            if (size > 0) {
                joiner.join((n.restBy(size) + o.restBy(size)) % size, size);
            }
        }
        return joiner.joint;
    }

    private long backOfProduct(Big n, Big o) {
        joiner.clear();
        for (int i = 0; i < state.baseCount; i++) {
            int size = state.bases[i];
            if (size > 0) {
                joiner.join(n.restBy(size) * o.restBy(size) % size, size);
            }
        }
        return joiner.joint;
    }

    private String textOf(Big n) {
        builder.setLength(0);
        n.writeTo(builder);
        return builder.toString();
    }

    private String textOfLong(long value) {
        work.becomeLong(value);
        return textOf(work);
    }

    private int lengthOfLong(long value) {
        work.becomeLong(value);
        return work.textLength();
    }

    private void writeResidues(Big n) {
        builder.setLength(0);
        for (int i = 0; i < state.baseCount; i++) {
            if (i > 0) {
                builder.append(',');
            }
            writeSmall(builder, n.restBy(state.bases[i]));
        }
    }

    /** A number of 0 to 999, sign by sign: append(int) may make objects, and long rows have many numbers. */
    private static void writeSmall(StringBuilder text, int value) {
        if (value >= 100) {
            text.append((char) ('0' + value / 100 % 10));
        }
        if (value >= 10) {
            text.append((char) ('0' + value / 10 % 10));
        }
        text.append((char) ('0' + value % 10));
    }

    // ---- parts of isSound

    private boolean numbersFit() {
        for (int slot = 0; slot < SLOTS; slot++) {
            if (state.numbers[slot].isTooLong()) {
                return false;
            }
        }
        return true;
    }

    private boolean slotsAreSound() {
        int m = state.dial;
        int unitCount = Round.countUnits(m);
        boolean oddPrime = Round.oddPrimeHolds(m);
        for (int slot = 0; slot < SLOTS; slot++) {
            int a = state.numbers[slot].restBy(m);
            int b = slot + 1 < SLOTS ? state.numbers[slot + 1].restBy(m) : 0;
            if (!Sound.powersHold(a, m) || !Sound.inverseHolds(a, m, unitCount) || !Sound.solutionsHold(a, b, m)) {
                return false;
            }
            if (oddPrime && Round.legendreOf(a, m) != Round.jacobiOf(a, m)) {
                return false;
            }
        }
        return true;
    }

    private boolean rowsAreSound() {
        joinRows();
        if (joiner.joined != (clashPlace(0) == NONE)) {
            return false;
        }
        if (!joiner.joined) {
            return true;
        }
        if (joiner.joint < 0 || joiner.joint >= joiner.whole) {
            return false;
        }
        for (int i = 0; i < state.rowCount; i++) {
            int size = state.sizes[i];
            if (size <= 0 || joiner.joint % size != state.rests[i]) {
                return false;
            }
        }
        return true;
    }

    private boolean backsAreSound() {
        spanWork.becomeLong(state.spanOfBases());
        for (int slot = 0; slot + 1 < SLOTS; slot++) {
            Big n = state.numbers[slot];
            Big o = state.numbers[slot + 1];
            extra.becomeSum(n, o);
            bigRound.findRest(extra, spanWork);
            work.becomeLong(backOfSum(n, o));
            if (work.compareSize(bigRound.found) != 0) {
                return false;
            }
            extra.becomeProduct(n, o);
            bigRound.findRest(extra, spanWork);
            work.becomeLong(backOfProduct(n, o));
            if (work.compareSize(bigRound.found) != 0) {
                return false;
            }
        }
        return true;
    }

    // ---- parts of digest

    private static long mix(long d, long v) {
        return d * DIGEST_FACTOR + v;
    }

    private long mixNumber(long start, int slot) {
        Big n = numberAt(slot);
        long d = mix(start, n.digitCount());
        d = mix(d, n.sign);
        d = mix(d, mod(slot));
        d = mix(d, gcd(slot));
        d = mix(d, inverse(slot));
        d = mix(d, power(slot, SLOTS - 1));
        return mix(d, solutions(slot, 0));
    }

    private long mixRound(long start, int slot) {
        long d = mix(start, order(slot));
        for (int what = 0; what <= 3; what++) {
            d = mix(d, ofPowers(slot, what));
        }
        d = mix(d, roots(slot));
        d = mix(d, legendre(slot));
        d = mix(d, jacobi(slot));
        return mix(d, broken(slot));
    }

    /** The texts themselves are not made: a digest would leave too many objects behind. */
    private long mixTexts(long start, int slot) {
        Big n = numberAt(slot);
        long d = mix(start, n.textLength());
        writeResidues(n);
        d = mix(d, builder.length());
        d = mix(d, lengthOfLong(backOf(n)));
        return mix(d, lengthOfLong(backOfProduct(n, numberAt(1))));
    }

    private long mixRows(long start) {
        long d = mix(start, state.rowCount);
        for (int i = 0; i < state.rowCount; i++) {
            d = mix(d, state.rests[i]);
            d = mix(d, state.sizes[i]);
        }
        joinRows();
        d = mix(d, joiner.joined ? 1 : 0);
        d = mix(d, joiner.joined ? lengthOfLong(joiner.joint) : "none".length());
        d = mix(d, lengthOfLong(joiner.whole));
        d = mix(d, clashPlace(0));
        return mix(d, clashPlace(1));
    }

    /** All that undoing brings back. */
    private static final class State {
        private int dial;
        private final Big[] numbers = new Big[SLOTS];
        private int rowCount;
        private final int[] rests = new int[MOST_ROWS];
        private final int[] sizes = new int[MOST_ROWS];
        private int baseCount;
        private final int[] bases = new int[MOST_BASES];

        State() {
            for (int i = 0; i < SLOTS; i++) {
                numbers[i] = new Big();
            }
        }

        void become(State other) {
            dial = other.dial;
            for (int i = 0; i < SLOTS; i++) {
                numbers[i].become(other.numbers[i]);
            }
            rowCount = other.rowCount;
            System.arraycopy(other.rests, 0, rests, 0, MOST_ROWS);
            System.arraycopy(other.sizes, 0, sizes, 0, MOST_ROWS);
            baseCount = other.baseCount;
            System.arraycopy(other.bases, 0, bases, 0, MOST_BASES);
        }

        void addRow(int rest, int size) {
            if (rowCount < MOST_ROWS && size > 0) {
                rests[rowCount] = Math.floorMod(rest, size);
                sizes[rowCount] = size;
                rowCount++;
            }
        }

        void removeRow(int place) {
            if (place < 0 || place >= rowCount) {
                return;
            }
            for (int i = place; i + 1 < rowCount; i++) {
                rests[i] = rests[i + 1];
                sizes[i] = sizes[i + 1];
            }
            rowCount--;
        }

        boolean rowsAgree(int place, int other) {
            int common = Round.commonOf(sizes[place], sizes[other]);
            return common > 0 && rests[place] % common == rests[other] % common;
        }

        boolean takesBase(int size) {
            for (int i = 0; i < baseCount; i++) {
                if (Round.commonOf(bases[i], size) != 1) {
                    return false;
                }
            }
            return baseCount < MOST_BASES;
        }

        void addBase(int size) {
            if (baseCount < MOST_BASES) {
                bases[baseCount] = size;
                baseCount++;
            }
        }

        int removeBase() {
            if (baseCount <= 0) {
                return NONE;
            }
            baseCount--;
            return bases[baseCount];
        }

        long spanOfBases() {
            long product = 1;
            for (int i = 0; i < baseCount; i++) {
                product *= bases[i];
            }
            return product;
        }
    }

    /** The states ahead of the last changes, in a ring: a further one takes the place of the oldest. */
    private static final class Past {
        private final State[] ring = new State[MOST_UNDONE];
        private int oldest;
        private int count;

        Past() {
            for (int i = 0; i < MOST_UNDONE; i++) {
                ring[i] = new State();
            }
        }

        void keep(State now) {
            ring[(oldest + count) % MOST_UNDONE].become(now);
            if (count < MOST_UNDONE) {
                count++;
            } else {
                oldest = (oldest + 1) % MOST_UNDONE;
            }
        }

        void bringBack(State now) {
            if (count > 0) {
                count--;
                now.become(ring[(oldest + count) % MOST_UNDONE]);
            }
        }
    }

    /** A whole number: a sign, and limbs of nine digits, the lowest first; those from length on are 0. */
    private static final class Big {
        private final int[] limbs = new int[ROOM];
        private int length;
        private int sign;

        int limb(int place) {
            return place >= 0 && place < ROOM ? limbs[place] : 0;
        }

        void put(int place, int value) {
            if (place >= 0 && place < ROOM) {
                limbs[place] = value;
            }
        }

        boolean isTooLong() {
            return length > NUMBER_LIMBS;
        }

        /** Finds the length anew; 0 has no sign, whatever is asked for. */
        void settle(int newSign) {
            length = 0;
            for (int i = ROOM - 1; i >= 0 && length == 0; i--) {
                if (limbs[i] != 0) {
                    length = i + 1;
                }
            }
            sign = length == 0 ? 0 : newSign;
        }

        void clear() {
            for (int i = 0; i < ROOM; i++) {
                limbs[i] = 0;
            }
            length = 0;
            sign = 0;
        }

        void become(Big other) {
            System.arraycopy(other.limbs, 0, limbs, 0, ROOM);
            length = other.length;
            sign = other.sign;
        }

        void becomeLong(long value) {
            clear();
            long left = value < 0 ? -value : value;
            for (int i = 0; i < 3; i++) {
                limbs[i] = (int) (left % LIMB);
                left /= LIMB;
            }
            settle(value < 0 ? -1 : 1);
        }

        int compareSize(Big other) {
            for (int i = ROOM - 1; i >= 0; i--) {
                if (limbs[i] != other.limbs[i]) {
                    return limbs[i] < other.limbs[i] ? -1 : 1;
                }
            }
            return 0;
        }

        /** May be one of both itself. */
        void becomeSum(Big a, Big b) {
            if (a.sign * b.sign >= 0) {
                int newSign = a.sign != 0 ? a.sign : b.sign;
                joinSizes(a, b, 1);
                settle(newSign);
            } else if (a.compareSize(b) >= 0) {
                int newSign = a.sign;
                joinSizes(a, b, -1);
                settle(newSign);
            } else {
                int newSign = b.sign;
                joinSizes(b, a, -1);
                settle(newSign);
            }
        }

        /** Needs the first one to be no smaller than the second, if the second is taken away (factor -1). */
        private void joinSizes(Big a, Big b, int factor) {
            int carry = 0;
            for (int i = 0; i < ROOM; i++) {
                int value = a.limbs[i] + factor * b.limbs[i] + carry;
                limbs[i] = Math.floorMod(value, LIMB);
                carry = Math.floorDiv(value, LIMB);
            }
        }

        /** Must be neither of both itself. */
        void becomeProduct(Big a, Big b) {
            clear();
            for (int i = 0; i < a.length; i++) {
                long carry = 0;
                for (int j = 0; j <= b.length; j++) {
                    long value = (long) a.limb(i) * b.limb(j) + limb(i + j) + carry;
                    put(i + j, (int) (value % LIMB));
                    carry = value / LIMB;
                }
            }
            settle(a.sign * b.sign);
        }

        void scaleUp(int factor) {
            long carry = 0;
            for (int i = 0; i < ROOM; i++) {
                long value = (long) limbs[i] * factor + carry;
                limbs[i] = (int) (value % LIMB);
                carry = value / LIMB;
            }
            settle(sign);
        }

        void scaleDown(int divisor) {
            if (divisor <= 0) {
                return;
            }
            long left = 0;
            for (int i = ROOM - 1; i >= 0; i--) {
                long value = left * LIMB + limbs[i];
                limbs[i] = (int) (value / divisor);
                left = value % divisor;
            }
            settle(sign);
        }

        /** MOD by a small number. */
        int restBy(int m) {
            if (m <= 0) {
                return 0;
            }
            long rest = 0;
            for (int i = length - 1; i >= 0; i--) {
                rest = (rest * LIMB + limb(i)) % m;
            }
            return (int) (sign < 0 && rest > 0 ? m - rest : rest);
        }

        int digitCount() {
            if (length == 0) {
                return 1;
            }
            int count = (length - 1) * LIMB_DIGITS;
            int left = limb(length - 1);
            for (int i = 0; i < LIMB_DIGITS && left > 0; i++) {
                left /= 10;
                count++;
            }
            return count;
        }

        int textLength() {
            return digitCount() + (sign < 0 ? 1 : 0);
        }

        void writeTo(StringBuilder text) {
            if (sign < 0) {
                text.append('-');
            }
            text.append(limb(length - 1));
            for (int i = length - 2; i >= 0; i--) {
                int part = LIMB / 10;
                for (int j = 0; j < LIMB_DIGITS && part > 0; j++) {
                    text.append((char) ('0' + limb(i) / part % 10));
                    part /= 10;
                }
            }
        }
    }

    /** Long division of two sizes, digit by digit in limbs (Knuth's algorithm D). */
    private static final class Division {
        private final Big quotient = new Big();
        private final Big rest = new Big();
        private final Big by = new Big();

        void divide(Big a, Big b) {
            quotient.clear();
            rest.become(a);
            by.become(b);
            if (by.length == 0) {
                rest.clear();
                return;
            }
            // With a high first limb of the divisor, the guess of a limb is at most two too high.
            int scale = LIMB / (by.limb(by.length - 1) + 1);
            rest.scaleUp(scale);
            by.scaleUp(scale);
            for (int place = rest.length - by.length; place >= 0; place--) {
                quotient.put(place, takeAway(place, guessAt(place)));
            }
            quotient.settle(1);
            rest.settle(1);
            rest.scaleDown(scale);
        }

        private long guessAt(int place) {
            int end = place + by.length;
            long first = by.limb(by.length - 1);
            long second = by.limb(by.length - 2);
            if (first <= 0) {
                return 0;
            }
            long top = (long) rest.limb(end) * LIMB + rest.limb(end - 1);
            long guess = top / first;
            long left = top % first;
            for (int i = 0; i < 3 && left < LIMB; i++) {
                if (guess < LIMB && guess * second <= left * LIMB + rest.limb(end - 2)) {
                    break;
                }
                guess--;
                left += first;
            }
            return guess;
        }

        /** Takes guess times the divisor away from the rest at a place; tells the limb that really fits. */
        private int takeAway(int place, long guess) {
            long carry = 0;
            for (int i = 0; i <= by.length; i++) {
                long value = rest.limb(place + i) - guess * by.limb(i) + carry;
                rest.put(place + i, (int) Math.floorMod(value, (long) LIMB));
                carry = Math.floorDiv(value, (long) LIMB);
            }
            if (carry == 0) {
                return (int) guess;
            }
            giveBack(place);
            return (int) (guess - 1);
        }

        private void giveBack(int place) {
            int carry = 0;
            for (int i = 0; i <= by.length; i++) {
                int value = rest.limb(place + i) + by.limb(i) + carry;
                rest.put(place + i, value % LIMB);
                carry = value / LIMB;
            }
        }
    }

    /** Arithmetic by a dial of many digits, which must be above 0. */
    private static final class BigRound {
        private final Big found = new Big();
        private final Division division = new Division();
        private final Big first = new Big();
        private final Big second = new Big();
        private final Big third = new Big();
        private final Big fourth = new Big();
        private final Big product = new Big();

        void findRest(Big a, Big m) {
            division.divide(a, m);
            found.become(division.rest);
            if (a.sign < 0 && found.sign != 0) {
                found.sign = -1;
                found.becomeSum(found, m);
            }
        }

        void findGcd(Big a, Big b) {
            Big older = first;
            Big newer = second;
            older.become(a);
            newer.become(b);
            for (int step = 0; step < EUCLID_STEPS && newer.length > 0; step++) {
                division.divide(older, newer);
                Big spare = older;
                older = newer;
                newer = spare;
                newer.become(division.rest);
            }
            found.become(older);
            found.settle(1);
        }

        /** Euclid's way with the factors of a beside it, whose signs alternate and which stay below m. */
        boolean findInverse(Big a, Big m) {
            findRest(a, m);
            Big older = first;
            Big newer = second;
            Big olderFactor = third;
            Big newerFactor = fourth;
            older.become(m);
            newer.become(found);
            olderFactor.becomeLong(0);
            newerFactor.becomeLong(1);
            boolean below = true;
            for (int step = 0; step < EUCLID_STEPS && newer.length > 0; step++) {
                division.divide(older, newer);
                Big spare = older;
                older = newer;
                newer = spare;
                newer.become(division.rest);
                product.becomeProduct(division.quotient, newerFactor);
                olderFactor.becomeSum(olderFactor, product);
                spare = olderFactor;
                olderFactor = newerFactor;
                newerFactor = spare;
                below = !below;
            }
            found.become(olderFactor);
            if (below && found.sign != 0) {
                found.sign = -1;
                found.becomeSum(found, m);
            }
            return older.length == 1 && older.limb(0) == 1;
        }

        boolean findPower(Big a, Big exponent, Big m) {
            if (exponent.sign < 0) {
                if (!findInverse(a, m)) {
                    return false;
                }
            } else {
                findRest(a, m);
            }
            Big factor = first;
            Big left = second;
            factor.become(found);
            left.become(exponent);
            third.becomeLong(1);
            findRest(third, m);
            for (int step = 0; step < EXPONENT_BITS && left.length > 0; step++) {
                if (left.limb(0) % 2 == 1) {
                    multiply(found, factor, m);
                }
                left.scaleDown(2);
                multiply(factor, factor, m);
            }
            return true;
        }

        private void multiply(Big a, Big b, Big m) {
            product.becomeProduct(a, b);
            division.divide(product, m);
            a.become(division.rest);
        }
    }

    /** Arithmetic by a small dial m above 0; a and b are on the dial. */
    private static final class Round {

        static int commonOf(int a, int b) {
            int older = a;
            int newer = b;
            for (int step = 0; step < EUCLID_STEPS && newer > 0; step++) {
                int left = older % newer;
                older = newer;
                newer = left;
            }
            return older;
        }

        static int invert(int a, int m) {
            int older = m;
            int newer = a;
            int olderFactor = 0;
            int newerFactor = 1;
            for (int step = 0; step < EUCLID_STEPS && newer > 0; step++) {
                int quotient = older / newer;
                int left = older % newer;
                older = newer;
                newer = left;
                int factor = olderFactor - quotient * newerFactor;
                olderFactor = newerFactor;
                newerFactor = factor;
            }
            if (older != 1) {
                return MISSED;
            }
            return olderFactor < 0 ? olderFactor + m : olderFactor;
        }

        static int raiseByInt(int a, int exponent, int m) {
            if (m <= 0) {
                return JAMMED;
            }
            int result = 1 % m;
            int factor = a;
            int left = exponent;
            for (int step = 0; step < 31 && left > 0; step++) {
                if (left % 2 == 1) {
                    result = result * factor % m;
                }
                left /= 2;
                factor = factor * factor % m;
            }
            return result;
        }

        static int raise(int a, Big exponent, int m) {
            if (m <= 0) {
                return JAMMED;
            }
            int factor = exponent.sign < 0 ? invert(a, m) : a;
            if (factor == MISSED) {
                return MISSED;
            }
            int result = 1 % m;
            for (int i = exponent.length - 1; i >= 0; i--) {
                result = raiseByInt(result, LIMB, m) * raiseByInt(factor, exponent.limb(i), m) % m;
            }
            return result;
        }

        static int countSolutions(int a, int b, int m) {
            int count = 0;
            for (int x = 0; x < m; x++) {
                if (a * x % m == b) {
                    count++;
                }
            }
            return count;
        }

        static int solutionAt(int a, int b, int m, int place) {
            int count = 0;
            for (int x = 0; x < m; x++) {
                if (a * x % m == b) {
                    if (count == place) {
                        return x;
                    }
                    count++;
                }
            }
            return NONE;
        }

        static int countUnits(int m) {
            int count = 0;
            for (int x = 0; x < m; x++) {
                if (commonOf(x, m) == 1) {
                    count++;
                }
            }
            return count;
        }

        static int orderOf(int a, int m) {
            int power = 1;
            for (int k = 1; k <= m; k++) {
                power = power * a % m;
                if (power == 1 % m) {
                    return k;
                }
            }
            return 0;
        }

        static int countRoots(int a, int m) {
            int count = 0;
            for (int x = 0; x < m; x++) {
                if (x * x % m == a) {
                    count++;
                }
            }
            return count;
        }

        static int rootAt(int a, int m, int place) {
            int count = 0;
            for (int x = 0; x < m; x++) {
                if (x * x % m == a) {
                    if (count == place) {
                        return x;
                    }
                    count++;
                }
            }
            return NONE;
        }

        static boolean primeHolds(int m) {
            for (int p = 2; p * p <= m; p++) {
                if (m % p == 0) {
                    return false;
                }
            }
            return m > 1;
        }

        static boolean oddPrimeHolds(int m) {
            return m > 2 && primeHolds(m);
        }

        static int legendreOf(int a, int prime) {
            if (a == 0) {
                return 0;
            }
            return rootAt(a, prime, 0) == NONE ? -1 : 1;
        }

        static int jacobiOf(int a, int m) {
            int product = 1;
            int left = m;
            for (int p = 2; p <= m && left > 1; p++) {
                for (int i = 0; i < m && left % p == 0; i++) {
                    product *= legendreOf(a % p, p);
                    left /= p;
                }
            }
            return product;
        }
    }

    /** What isSound asks of one number a on the dial m. */
    private static final class Sound {

        static boolean powersHold(int a, int m) {
            if (m <= 0) {
                return false;
            }
            int product = 1 % m;
            for (int exponent = 0; exponent <= 5; exponent++) {
                if (Round.raiseByInt(a, exponent, m) != product) {
                    return false;
                }
                product = product * a % m;
            }
            return true;
        }

        static boolean inverseHolds(int a, int m, int unitCount) {
            if (m <= 0) {
                return false;
            }
            int one = 1 % m;
            int inverse = Round.invert(a, m);
            int fitting = Round.countSolutions(a, one, m);
            if (Round.commonOf(a, m) != 1) {
                return inverse == MISSED && fitting == 0;
            }
            int order = Round.orderOf(a, m);
            return inverse != MISSED && fitting == 1 && Round.solutionAt(a, one, m, 0) == inverse
                    && Round.raiseByInt(a, unitCount, m) == one && order > 0 && unitCount % order == 0;
        }

        static boolean solutionsHold(int a, int b, int m) {
            int common = Round.commonOf(a, m);
            int due = common > 0 && b % common == 0 ? common : 0;
            return Round.countSolutions(a, b, m) == due;
        }
    }

    /** The generators of one dial, told from the primes of its count of units. */
    private static final class Generators {
        /** A count below 400 has at most four primes: 2 * 3 * 5 * 7 * 11 is above it. */
        private final int[] primes = new int[4];
        private int primeCount;
        private int m;
        private int unitCount;

        void turnTo(int dial) {
            m = dial;
            unitCount = Round.countUnits(dial);
            primeCount = 0;
            for (int p = 2; p <= unitCount; p++) {
                if (unitCount % p == 0 && Round.primeHolds(p) && primeCount < primes.length) {
                    primes[primeCount] = p;
                    primeCount++;
                }
            }
        }

        /** The order of a unit divides their count; it is the count, if it divides no count / prime. */
        boolean holds(int a) {
            if (m <= 0 || Round.commonOf(a, m) != 1) {
                return false;
            }
            for (int i = 0; i < primeCount; i++) {
                int prime = primes[i];
                if (prime > 0 && Round.raiseByInt(a, unitCount / prime, m) == 1 % m) {
                    return false;
                }
            }
            return true;
        }

        int findAt(int place) {
            int count = 0;
            for (int x = 0; x < m; x++) {
                if (holds(x)) {
                    if (count == place) {
                        return x;
                    }
                    count++;
                }
            }
            return NONE;
        }
    }

    /** The row of powers of one number. */
    private static final class PowerRow {
        private final int[] row = new int[HIGHEST_DIAL];
        private final int[] placeOf = new int[HIGHEST_DIAL];
        private int count;
        private int tail;

        void fill(int a, int m) {
            count = 0;
            tail = 0;
            if (m <= 0 || m > HIGHEST_DIAL || a < 0 || a >= m) {
                return;
            }
            for (int x = 0; x < m; x++) {
                placeOf[x] = NONE;
            }
            int power = 1 % m;
            for (int i = 0; i < m && placeOf[power] == NONE; i++) {
                row[i] = power;
                placeOf[power] = i;
                count++;
                power = power * a % m;
            }
            tail = placeOf[power];
        }

        int tellOf(int what) {
            switch (what) {
                case 0:
                    return count;
                case 1:
                    return tail;
                case 2:
                    return count - tail;
                default:
                    return sumOfRow();
            }
        }

        private int sumOfRow() {
            int sum = 0;
            for (int i = 0; i < count; i++) {
                sum += row[i];
            }
            return sum;
        }

        void writeTo(StringBuilder text) {
            for (int i = 0; i < count; i++) {
                if (i > 0) {
                    text.append(' ');
                }
                writeSmall(text, row[i]);
            }
        }
    }

    /** Joins rests one by one: what meets all so far is joint, or differs from it by a multiple of whole. */
    private static final class Joiner {
        private boolean joined;
        private long joint;
        private long whole;

        void clear() {
            joined = true;
            joint = 0;
            whole = 1;
        }

        boolean admits(int rest, int size) {
            if (size <= 0) {
                return false;
            }
            int common = Round.commonOf((int) (whole % size), size);
            return joined && common > 0 && (rest - joint) % common == 0;
        }

        /** Six sizes of 999 keep whole below 10 to the 18th; once nothing is joint, it still grows. */
        void join(int rest, int size) {
            joined = admits(rest, size);
            if (size <= 0) {
                return;
            }
            int common = Round.commonOf((int) (whole % size), size);
            int step = common > 0 ? size / common : 0;
            if (step <= 0) {
                return;
            }
            if (joined) {
                long gap = Math.floorMod(rest - joint, (long) size) / common;
                long inverse = Round.invert((int) (whole / common % step), step);
                joint += whole * (gap * inverse % step);
            }
            whole *= step;
        }
    }
}
