import java.math.BigInteger;
import java.util.ArrayList;
import java.util.List;

/** The boundary cases of the promises 60 and 61: soundness in edge states, and the checksum's wrap-around. */
public final class EdgesOfAllTest extends Checks {

    private static final BigInteger LARGEST = BigInteger.valueOf(Long.MAX_VALUE);
    private static final BigInteger LEAST = BigInteger.valueOf(Long.MIN_VALUE);

    public static void main(String[] args) {
        soundAtFirst();
        soundByEachDial();
        soundWithLongNumbers();
        soundRows();
        checksumAtFirst();
        checksums();
        checksumWrapsAround();
        checksumAnswersEachPart();
        end("the edges of all of it hold");
    }

    private static void soundAtFirst() {
        says(60, "if the DIAL is not JAMMED");
        due(true, () -> new Clockhouse().isSound());
        for (int dial : new int[] {-9, -8, -1, 0, 1, 2}) {
            due(true, () -> house(dial).isSound());
        }
        says(60, "Returns whether all of this is so: if the DIAL is not JAMMED, for each SLOT with the NUMBER a: POWERS of "
                + "a by 0 to 5 are the products of so many factors, it has an INVERSE just if its GCD with the DIAL is 1, "
                + "and then the numbers on the dial which times a are ONE are that one alone (otherwise none), a raised "
                + "to the count of UNITS is ONE then, and its ORDER divides that count; the SOLUTIONS of a and the NUMBER "
                + "of the next SLOT (for the SLOT 5: and the number 0) are as many as the GCD of a and the DIAL, if this "
                + "divides that NUMBER, otherwise none; LEGENDRE is JACOBI, if the DIAL is an odd prime; CONGRUENCES can "
                + "be JOINED just if there is no CLASH, and then the ANSWER is below its dial and MEETS all; what comes "
                + "BACK from sums and products of RESIDUES of each two neighbouring SLOTS is the sum and the product of "
                + "both NUMBERS MOD the SPAN; no NUMBER is TOO LONG.");
        due(true, () -> house().isSound());
    }

    private static void soundByEachDial() {
        says(60, "for each SLOT with the NUMBER a");
        for (int i = -9; i <= 400; i++) {
            int dial = i;
            due(true, () -> with(dial, dial, dial - 1, -1, dial / 2, 0, 6).isSound());
            due(true, () -> with(dial, 2, 3, 5, 7, 0, dial + 1).isSound());
        }
    }

    private static void soundWithLongNumbers() {
        says(60, "no NUMBER is TOO LONG.");
        Clockhouse x = holding(NINES, "-" + NINES, tenTo(35), "0", NINES, NINES);
        due(true, () -> x.isSound());
        due(STATE, () -> x.times(0, 0));
        due(STATE, () -> x.plus(0, 0));
        due(true, () -> x.isSound());
        says(60, "what comes BACK from sums and products of RESIDUES of each two neighbouring SLOTS is the sum and the "
                + "product of both NUMBERS MOD the SPAN");
        for (int base : new int[] {999, 998, 997, 995, 991}) {
            x.base(base);
            due(true, () -> x.isSound());
        }
    }

    private static void soundRows() {
        says(60, "CONGRUENCES can be JOINED just if there is no CLASH, and then the ANSWER is below its dial and MEETS all");
        Clockhouse x = new Clockhouse();
        for (int size : new int[] {999, 998, 997, 995, 991, 989}) {
            x.tell(-1, size);
            due(true, () -> x.isSound());
        }
        x.drop(0);
        x.tell(0, 998);
        due(false, () -> x.isJoined());
        due(true, () -> x.isSound());
        Clockhouse y = new Clockhouse();
        y.tell(0, 1);
        due(true, () -> y.isSound());
    }

    private static int oneIf(boolean so) {
        return so ? 1 : 0;
    }

    /** What the checksum reads, asked call by call, in the document's order. */
    private static List<Long> partsOf(Clockhouse x) {
        List<Integer> all = new ArrayList<>();
        all.add(x.size());
        for (int slot = 0; slot < 6; slot++) {
            String text = x.number(slot);
            all.addAll(List.of(x.digits(slot), text.equals("0") ? 0 : text.startsWith("-") ? -1 : 1, x.mod(slot),
                    x.gcd(slot), x.inverse(slot), x.power(slot, 5), x.solutions(slot, 0), x.order(slot)));
            for (int what = 0; what <= 3; what++) {
                all.add(x.ofPowers(slot, what));
            }
            all.addAll(List.of(x.roots(slot), x.legendre(slot), x.jacobi(slot), x.broken(slot), text.length(),
                    x.residues(slot).length(), x.back(slot).length(), x.productBack(slot, 1).length()));
        }
        all.addAll(List.of(x.units(), x.generator(0), oneIf(x.isPrime()), x.rows()));
        for (int place = 0; place < x.rows(); place++) {
            all.addAll(List.of(x.ofRow(place, 0), x.ofRow(place, 1)));
        }
        all.addAll(List.of(oneIf(x.isJoined()), x.answer().length(), x.answerDial().length(), x.clash(0), x.clash(1),
                x.bases(), x.span().length()));
        for (int what = 0; what <= 3; what++) {
            all.add(x.books(what));
        }
        all.add(oneIf(x.isSound()));
        List<Long> parts = new ArrayList<>();
        for (int part : all) {
            parts.add((long) part);
        }
        return parts;
    }

    /** The checksum without any wrap-around: a number of some hundred digits. */
    private static BigInteger unwrapped(List<Long> parts) {
        BigInteger d = BigInteger.valueOf(4906);
        for (long part : parts) {
            d = d.multiply(BigInteger.valueOf(31)).add(BigInteger.valueOf(part));
        }
        return d;
    }

    private static void checksumIs(Clockhouse x) {
        long due = unwrapped(partsOf(x)).longValue();
        due(due, () -> x.digest());
    }

    private static void checksumAtFirst() {
        says(61, "Computes a checksum. A number d starts with 4906");
        due(5067572145058207214L, () -> new Clockhouse().digest());
        checksumIs(new Clockhouse());
    }

    private static void checksums() {
        says(61, "Returns d.");
        for (int dial : new int[] {-9, -8, -1, 0, 1, 2, 3, 4, 9, 15, 397, 399, 400}) {
            checksumIs(house(dial));
            checksumIs(with(dial, -1, 0, 1, dial, -dial, -1));
        }
        checksumIs(house());
        checksumIs(holding(NINES, "-" + NINES, "0", tenTo(35), "-1", "-" + NINES));
        Clockhouse full = house(7);
        full.tell(0, 1);
        full.tell(-1, 998);
        full.tell(9999, 997);
        full.tell(-9999, 991);
        full.base(997);
        full.base(999);
        full.base(11);
        full.knock();
        full.roundInverse(3);
        checksumIs(full);
        full.drop(5);
        full.tell(0, 3);
        due(false, () -> full.isJoined());
        checksumIs(full);
    }

    private static void checksumWrapsAround() {
        says(61, "then d becomes d * 31 + v, which wraps around as a 64-bit integer");
        boolean above = false;
        boolean below = false;
        for (int i = 1; i <= 40; i++) {
            Clockhouse x = with(i, i, -i);
            BigInteger d = unwrapped(partsOf(x));
            // Far beyond 64 bits, so that only a wrap-around can answer it.
            due(true, () -> d.compareTo(LARGEST) > 0 && d.compareTo(LEAST) > 0);
            due(d.longValue(), () -> x.digest());
            above |= d.longValue() > 0;
            below |= d.longValue() < 0;
        }
        boolean bothSides = above && below;
        due(true, () -> bothSides);
    }

    /** Each part that the checksum names shows in it. */
    private static void checksumAnswersEachPart() {
        says(61, "for each v in this order: the DIAL; SLOT by SLOT all of these");
        Step[] changes = {x -> x.dial(13), x -> x.set(2, 9), x -> x.negate(1), x -> x.tell(0, 1), x -> x.drop(1),
            x -> x.unbase(), x -> x.base(3), x -> x.knock(), x -> x.roundInverse(2), x -> x.undo()};
        for (Step change : changes) {
            Clockhouse x = house();
            change.on(x);
            due(false, () -> x.digest() == house().digest());
            checksumIs(x);
        }
        Clockhouse x = house(0);
        x.reduce(0);
        due(false, () -> x.digest() == house(0).digest());
        checksumIs(x);
    }
}
