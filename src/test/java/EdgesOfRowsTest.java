import java.math.BigInteger;

/** The boundary cases of parts 3 and 4 of the Terms and of the promises 13 to 17 and 44 to 58. */
public final class EdgesOfRowsTest extends Checks {

    private static final int[] NO_RESTS = {-10000, 10000, Integer.MIN_VALUE, Integer.MAX_VALUE};
    private static final int[] NO_SIZES = {0, 1000, -1, Integer.MIN_VALUE, Integer.MAX_VALUE};
    private static final int[] NO_PARTS = {-1, 2, Integer.MIN_VALUE, Integer.MAX_VALUE};
    private static final int[] LARGE = {999, 998, 997, 995, 991, 989};

    public static void main(String[] args) {
        told();
        sixTold();
        restsKept();
        toldIf();
        sevenToldIf();
        dropped();
        droppedFromFull();
        basesTold();
        basesRefused();
        basesGone();
        rowsCounted();
        rowsAsked();
        agreeing();
        joined();
        wouldJoin();
        wouldJoinFull();
        answers();
        answersOfLargeDials();
        answerDials();
        clashes();
        clashOrder();
        broken();
        basesCounted();
        spans();
        residues();
        comingBack();
        sumsBack();
        productsBack();
        end("the edges of rows hold");
    }

    /** Rests and dials, one behind the other. */
    private static Clockhouse rows(int... restsAndSizes) {
        Clockhouse x = new Clockhouse();
        for (int i = 0; i < restsAndSizes.length; i += 2) {
            x.tell(restsAndSizes[i], restsAndSizes[i + 1]);
        }
        return x;
    }

    private static Clockhouse sixRows() {
        return rows(1, 2, 2, 3, 3, 5, 4, 7, 5, 11, 6, 13);
    }

    private static Clockhouse basesOf(int... sizes) {
        Clockhouse x = new Clockhouse();
        for (int size : sizes) {
            x.base(size);
        }
        return x;
    }

    private static BigInteger productOf(int... sizes) {
        BigInteger product = BigInteger.ONE;
        for (int size : sizes) {
            product = product.multiply(BigInteger.valueOf(size));
        }
        return product;
    }

    private static void told() {
        says(13, "rest is not -9999 to 9999, or size not 1 to 999");
        due(0, () -> rows().tell(-9999, 999));
        due(0, () -> rows().tell(9999, 999));
        due(0, () -> rows().tell(0, 1));
        for (int rest : NO_RESTS) {
            refused(ARGUMENT, Checks::house, x -> x.tell(rest, 5));
        }
        for (int size : NO_SIZES) {
            refused(ARGUMENT, Checks::house, x -> x.tell(1, size));
        }
        refused(ARGUMENT, Checks::house, x -> x.tell(10000, 1000));
        says(13, "Tells a CONGRUENCE; it stands at the end of the row.");
        Clockhouse x = rows(1, 2, 2, 3);
        due(2, () -> x.tell(4, 6));
        due("1/2 2/3 4/6", () -> rowText(x));
        // It is told also if not all can be JOINED then.
        due(3, () -> x.tell(0, 2));
        due(false, () -> x.isJoined());
    }

    private static String rowText(Clockhouse x) {
        StringBuilder text = new StringBuilder();
        for (int i = 0; i < x.rows(); i++) {
            text.append(i == 0 ? "" : " ").append(x.ofRow(i, 0)).append('/').append(x.ofRow(i, 1));
        }
        return text.toString();
    }

    private static void sixTold() {
        says(13, "Returns its place.");
        Clockhouse x = new Clockhouse();
        for (int i = 0; i < 6; i++) {
            int place = i;
            due(place, () -> x.tell(place, 10));
        }
        says(13, "there are 6");
        refused(STATE, EdgesOfRowsTest::sixRows, y -> y.tell(0, 1));
        refused(ARGUMENT, EdgesOfRowsTest::sixRows, y -> y.tell(10000, 1));
        refused(ARGUMENT, EdgesOfRowsTest::sixRows, y -> y.tell(0, 0));
        due(5, () -> {
            Clockhouse y = sixRows();
            y.drop(0);
            return y.tell(0, 1);
        });
        says(TERMS, "CONGRUENCES: a row of at most 6, at places from 0 on, each a REST and a dial of its own, "
                + "ITS DIAL (1 to 999)");
        due(6, () -> sixRows().rows());
        due("1/2 2/3 3/5 4/7 5/11 6/13", () -> rowText(sixRows()));
    }

    private static void restsKept() {
        says(TERMS, "a REST is told as any number of -9999 to 9999, and kept MOD ITS DIAL.");
        int[] rests = {-9999, -1000, -999, -12, -1, 0, 1, 11, 12, 13, 999, 1000, 9999};
        for (int size : new int[] {1, 2, 12, 998, 999}) {
            for (int rest : rests) {
                due(Math.floorMod(rest, size), () -> rows(rest, size).ofRow(0, 0));
                due(size, () -> rows(rest, size).ofRow(0, 1));
            }
        }
        due(0, () -> rows(-9999, 1).ofRow(0, 0));
        due(990, () -> rows(-9999, 999).ofRow(0, 0));
        due(9, () -> rows(9999, 999).ofRow(0, 0));
        due(998, () -> rows(-1, 999).ofRow(0, 0));
    }

    private static void toldIf() {
        says(14, "rest is not -9999 to 9999, or size not 1 to 999");
        due(true, () -> rows().tellIf(-9999, 999));
        due(true, () -> rows().tellIf(9999, 1));
        for (int rest : NO_RESTS) {
            refused(ARGUMENT, Checks::house, x -> x.tellIf(rest, 5));
        }
        for (int size : NO_SIZES) {
            refused(ARGUMENT, Checks::house, x -> x.tellIf(1, size));
        }
        says(14, "Tells a CONGRUENCE only if all, with it, can be JOINED.");
        due("1/2 3/4", () -> {
            Clockhouse x = rows(1, 2);
            x.tellIf(-1, 4);
            return rowText(x);
        });
        due("1/2", () -> {
            Clockhouse x = rows(1, 2);
            x.tellIf(-2, 4);
            return rowText(x);
        });
        says(14, "Returns whether it was told.");
        due(true, () -> rows().tellIf(0, 1));
        due(true, () -> rows(1, 2).tellIf(-1, 4));
        tells(false, () -> rows(1, 2), x -> x.tellIf(-2, 4));
        tells(false, () -> rows(0, 2, 1, 2), x -> x.tellIf(0, 1));
        tells(false, () -> rows(5, 6, 3, 10), x -> x.tellIf(4, 15));
        // It agrees with each of both alone.
        tells(false, () -> rows(0, 2, 1, 2), x -> x.tellIf(1, 3));
    }

    private static void sevenToldIf() {
        says(14, "there are 6");
        due(true, () -> {
            Clockhouse x = rows(1, 2, 2, 3, 3, 5, 4, 7, 5, 11);
            return x.tellIf(6, 13);
        });
        refused(STATE, EdgesOfRowsTest::sixRows, x -> x.tellIf(0, 1));
        refused(STATE, EdgesOfRowsTest::sixRows, x -> x.tellIf(0, 2));
        refused(ARGUMENT, EdgesOfRowsTest::sixRows, x -> x.tellIf(-10000, 1));
        refused(ARGUMENT, EdgesOfRowsTest::sixRows, x -> x.tellIf(0, 1000));
    }

    private static void dropped() {
        says(15, "no CONGRUENCE is at that place");
        due(1, () -> house().drop(0));
        due(1, () -> house().drop(1));
        for (int place : new int[] {-1, 2, 5, 6, Integer.MIN_VALUE, Integer.MAX_VALUE}) {
            refused(INDEX, Checks::house, x -> x.drop(place));
        }
        refused(INDEX, Clockhouse::new, x -> x.drop(0));
        says(15, "Returns how many there are then.");
        Clockhouse x = sixRows();
        for (int i = 5; i >= 0; i--) {
            int left = i;
            due(left, () -> x.drop(0));
        }
        due(INDEX, () -> x.drop(0));
    }

    private static void droppedFromFull() {
        says(15, "A CONGRUENCE goes; those behind it move up by one place.");
        due("2/3 3/5 4/7 5/11 6/13", () -> rowsWithout(0));
        due("1/2 3/5 4/7 5/11 6/13", () -> rowsWithout(1));
        due("1/2 2/3 3/5 4/7 6/13", () -> rowsWithout(4));
        due("1/2 2/3 3/5 4/7 5/11", () -> rowsWithout(5));
        refused(INDEX, EdgesOfRowsTest::sixRows, x -> x.drop(6));
        // What has gone must not count on: neither in the ANSWER nor in what the row takes anew.
        Clockhouse x = rows(0, 2, 1, 2);
        x.drop(1);
        due("0", () -> x.answer());
        due("2", () -> x.answerDial());
        due(true, () -> x.isJoined());
        due(1, () -> x.tell(2, 5));
        due("0/2 2/5", () -> rowText(x));
    }

    private static String rowsWithout(int place) {
        Clockhouse x = sixRows();
        x.drop(place);
        return rowText(x);
    }

    private static void basesTold() {
        says(16, "size is not 2 to 999");
        due(0, () -> basesOf().base(2));
        due(0, () -> basesOf().base(999));
        for (int size : new int[] {1, 1000, 0, -1, -7, Integer.MIN_VALUE, Integer.MAX_VALUE}) {
            refused(ARGUMENT, Checks::house, x -> x.base(size));
        }
        says(16, "Returns its place.");
        Clockhouse x = new Clockhouse();
        int[] sizes = {2, 3, 5, 7, 11};
        for (int i = 0; i < sizes.length; i++) {
            int place = i;
            due(place, () -> x.base(sizes[place]));
        }
        says(16, "Tells a BASE; it stands at the end of the row.");
        x.set(0, 1009);
        due("1,1,4,1,8", () -> x.residues(0));
    }

    private static void basesRefused() {
        says(16, "there are 5, or its GCD with one of them is not 1");
        refused(STATE, () -> basesOf(2, 3, 5, 7, 11), x -> x.base(13));
        refused(STATE, () -> basesOf(2, 3, 5, 7, 11), x -> x.base(2));
        refused(ARGUMENT, () -> basesOf(2, 3, 5, 7, 11), x -> x.base(1));
        refused(ARGUMENT, () -> basesOf(2, 3, 5, 7, 11), x -> x.base(1000));
        refused(STATE, () -> basesOf(999), x -> x.base(999));
        refused(STATE, () -> basesOf(4), x -> x.base(2));
        refused(STATE, () -> basesOf(2), x -> x.base(4));
        refused(STATE, () -> basesOf(35, 9), x -> x.base(14));
        refused(STATE, () -> basesOf(9, 35), x -> x.base(14));
        refused(STATE, () -> basesOf(7, 11, 13, 17), x -> x.base(34));
        due(4, () -> basesOf(7, 11, 13, 17).base(36));
        says(TERMS, "BASES: a row of at most 5 numbers of 2 to 999, at places from 0 on, each two of which have the GCD 1.");
        due(5, () -> basesOf(999, 998, 997, 995, 991).bases());
        due(2, () -> basesOf(999, 2).bases());
        due(1, () -> basesOf(8).base(9));
    }

    private static void basesGone() {
        says(17, "there is none");
        refused(STATE, Clockhouse::new, x -> x.unbase());
        refused(STATE, () -> {
            Clockhouse x = basesOf(2);
            x.unbase();
            return x;
        }, x -> x.unbase());
        says(17, "The last BASE goes.");
        Clockhouse x = basesOf(2, 3, 5, 7, 11);
        x.unbase();
        due("210", () -> x.span());
        due(4, () -> x.base(121));
        due("25410", () -> x.span());
        says(17, "Returns that BASE.");
        int[] back = {121, 7, 5, 3, 2};
        for (int base : back) {
            due(base, () -> x.unbase());
        }
        due(0, () -> x.bases());
        due("1", () -> x.span());
    }

    private static void rowsCounted() {
        says(44, "Returns how many CONGRUENCES there are.");
        due(0, () -> new Clockhouse().rows());
        due(1, () -> rows(0, 1).rows());
        due(2, () -> rows(0, 2, 1, 2).rows());
        due(6, () -> sixRows().rows());
    }

    private static void rowsAsked() {
        says(45, "no CONGRUENCE is at that place");
        due(2, () -> house().ofRow(0, 0));
        due(5, () -> house().ofRow(1, 1));
        for (int place : new int[] {-1, 2, 5, 6, Integer.MIN_VALUE, Integer.MAX_VALUE}) {
            refused(INDEX, Checks::house, x -> x.ofRow(place, 0));
            refused(INDEX, Checks::house, x -> x.ofRow(place, 2));
        }
        refused(INDEX, Clockhouse::new, x -> x.ofRow(0, 0));
        refused(INDEX, EdgesOfRowsTest::sixRows, x -> x.ofRow(6, 1));
        due(13, () -> sixRows().ofRow(5, 1));
        says(45, "what is not 0 or 1");
        for (int what : NO_PARTS) {
            refused(ARGUMENT, Checks::house, x -> x.ofRow(0, what));
        }
        says(45, "`what`: 0 REST, 1 ITS DIAL");
        due(3, () -> house().ofRow(1, 0));
        due(3, () -> house().ofRow(0, 1));
        says(45, "Returns that of the CONGRUENCE there.");
        due(6, () -> sixRows().ofRow(5, 0));
        due(2, () -> sixRows().ofRow(0, 1));
    }

    private static void agreeing() {
        says(46, "at one of both places there is no CONGRUENCE");
        due(true, () -> house().agree(0, 1));
        due(true, () -> house().agree(1, 0));
        for (int place : new int[] {-1, 2, 5, 6, Integer.MIN_VALUE, Integer.MAX_VALUE}) {
            refused(INDEX, Checks::house, x -> x.agree(place, 0));
            refused(INDEX, Checks::house, x -> x.agree(0, place));
            refused(INDEX, Checks::house, x -> x.agree(place, place));
        }
        refused(INDEX, Clockhouse::new, x -> x.agree(0, 0));
        due(true, () -> sixRows().agree(5, 5));
        refused(INDEX, EdgesOfRowsTest::sixRows, x -> x.agree(5, 6));
        says(46, "`other`: a place (it may be the same)");
        due(true, () -> rows(1, 2).agree(0, 0));
        says(46, "Returns whether the CONGRUENCES there AGREE.");
        due(true, () -> rows(0, 1, 998, 999).agree(0, 1));
        due(true, () -> rows(1, 2, 3, 4).agree(0, 1));
        due(false, () -> rows(1, 2, 2, 4).agree(0, 1));
        says(TERMS, "Two AGREE, if both RESTS have the same MOD by the GCD of both dials.");
        due(true, () -> rows(1, 4, 5, 6).agree(1, 0));
        due(false, () -> rows(1, 4, 2, 6).agree(1, 0));
        due(true, () -> rows(0, 998, 1, 999).agree(0, 1));
        due(true, () -> rows(5, 6, 5, 6).agree(0, 1));
        due(false, () -> rows(5, 6, 4, 6).agree(0, 1));
        due(true, () -> rows(-1, 6, 5, 6).agree(0, 1));
    }

    private static void joined() {
        says(47, "Returns whether all CONGRUENCES can be JOINED.");
        due(true, () -> rows(1, 2).isJoined());
        due(true, () -> rows(1, 2, 1, 2).isJoined());
        due(false, () -> rows(1, 2, 0, 2).isJoined());
        due(true, () -> sixRows().isJoined());
        due(false, () -> rows(1, 2, 2, 3, 3, 5, 4, 7, 5, 11, 0, 2).isJoined());
        due(false, () -> rows(1, 2, 0, 2, 0, 1).isJoined());
        says(TERMS, "All can be JOINED, if there is a number that MEETS them all (without any: they can).");
        due(true, () -> rows().isJoined());
        due(true, () -> {
            Clockhouse x = rows(1, 2, 0, 2);
            x.drop(0);
            x.drop(0);
            return x.isJoined();
        });
    }

    private static void wouldJoin() {
        says(48, "rest is not -9999 to 9999, or size not 1 to 999");
        due(true, () -> rows().wouldJoin(-9999, 999));
        due(true, () -> rows().wouldJoin(9999, 1));
        for (int rest : NO_RESTS) {
            refused(ARGUMENT, Checks::house, x -> x.wouldJoin(rest, 5));
        }
        for (int size : NO_SIZES) {
            refused(ARGUMENT, Checks::house, x -> x.wouldJoin(1, size));
        }
        says(48, "Returns whether all could be JOINED, if that CONGRUENCE stood in the row, too");
        tells(true, Checks::house, x -> x.wouldJoin(8, 15));
        tells(false, Checks::house, x -> x.wouldJoin(9, 15));
        tells(true, Checks::house, x -> x.wouldJoin(-7, 15));
        tells(true, Checks::house, x -> x.wouldJoin(-9999, 2));
        tells(false, () -> rows(0, 2, 1, 2), x -> x.wouldJoin(0, 1));
        tells(true, Clockhouse::new, x -> x.wouldJoin(0, 1));
    }

    private static void wouldJoinFull() {
        says(48, "(also if there are 6)");
        tells(true, EdgesOfRowsTest::sixRows, x -> x.wouldJoin(0, 1));
        tells(true, EdgesOfRowsTest::sixRows, x -> x.wouldJoin(1, 2));
        tells(false, EdgesOfRowsTest::sixRows, x -> x.wouldJoin(0, 2));
        tells(true, EdgesOfRowsTest::sixRows, x -> x.wouldJoin(-9999, 997));
        Maker large = () -> largeRows(-1);
        tells(true, large, x -> x.wouldJoin(-1, 983));
        tells(true, large, x -> x.wouldJoin(-1, 999));
        tells(true, large, x -> x.wouldJoin(-1, 990));
        tells(false, large, x -> x.wouldJoin(0, 990));
        tells(true, large, x -> x.wouldJoin(9999, 1));
        tells(false, large, x -> x.wouldJoin(9998, 999));
        tells(true, large, x -> x.wouldJoin(-9991, 999));
        refused(ARGUMENT, EdgesOfRowsTest::sixRows, x -> x.wouldJoin(10000, 2));
        refused(ARGUMENT, EdgesOfRowsTest::sixRows, x -> x.wouldJoin(1, 0));
        due(false, () -> rows(1, 2, 0, 2, 0, 1, 0, 1, 0, 1, 0, 1).wouldJoin(0, 1));
    }

    private static Clockhouse largeRows(int rest) {
        Clockhouse x = new Clockhouse();
        for (int size : LARGE) {
            x.tell(rest, size);
        }
        return x;
    }

    private static void answers() {
        says(49, "Returns the text of the ANSWER; \"none\", if not all can be JOINED.");
        due("none", () -> rows(1, 2, 0, 2).answer());
        due("none", () -> rows(5, 6, 3, 10, 4, 15).answer());
        due("23", () -> rows(2, 3, 3, 5, 2, 7).answer());
        due("none", () -> rows(0, 2, 0, 3, 0, 5, 0, 7, 0, 11, 1, 2).answer());
        says(TERMS, "The ANSWER is then the least such number of 0 or more; its dial is the LCM of all dials.");
        due("0", () -> rows().answer());
        due("0", () -> rows(0, 1).answer());
        due("0", () -> rows(12, 12, -6, 6).answer());
        due("11", () -> rows(-1, 12).answer());
        due("11", () -> rows(3, 4, 5, 6).answer());
        due("11", () -> rows(5, 6, 3, 4).answer());
        due("11", () -> rows(5, 6, 11, 12, 3, 4).answer());
        due("998", () -> rows(-1, 999, 0, 1).answer());
        says(TERMS, "A number n MEETS one if n MOD ITS DIAL is the REST.");
        Clockhouse x = rows(7, 8, 3, 9, -4, 25);
        long answer = Long.parseLong(x.answer());
        due(7L, () -> answer % 8);
        due(3L, () -> answer % 9);
        due(21L, () -> answer % 25);
        due(true, () -> answer >= 0 && answer < 1800);
    }

    private static void answersOfLargeDials() {
        says(TERMS, "The ANSWER is then the least such number of 0 or more");
        BigInteger whole = productOf(LARGE);
        due(whole.subtract(BigInteger.ONE).toString(), () -> largeRows(-1).answer());
        due("0", () -> largeRows(0).answer());
        due("988", () -> largeRows(988).answer());
        due(whole.subtract(BigInteger.valueOf(9999)).toString(), () -> largeRows(-9999).answer());
        due("9999", () -> largeRows(9999).answer());
        due(whole.toString(), () -> largeRows(5).answerDial());
    }

    private static void answerDials() {
        says(50, "Returns the text of the LCM of all dials of CONGRUENCES (also if not all can be JOINED).");
        due("2", () -> rows(1, 2, 0, 2).answerDial());
        due("12", () -> rows(1, 4, 2, 6).answerDial());
        due("30", () -> rows(5, 6, 3, 10, 4, 15).answerDial());
        due("30030", () -> sixRows().answerDial());
        due(productOf(LARGE).toString(), () -> rows(0, 999, 0, 998, 0, 997, 0, 995, 0, 991, 0, 989).answerDial());
        due(productOf(999, 998, 997, 995, 991).toString(),
                () -> rows(0, 999, 0, 998, 0, 997, 0, 995, 0, 991, 1, 999).answerDial());
        due(productOf(999, 998, 997, 995, 991).toString(),
                () -> rows(0, 999, 1, 999, 0, 998, 0, 997, 0, 995, 0, 991).answerDial());
        says(TERMS, "LCM of numbers above 0: the least number above 0 that all of them divide (without any: 1).");
        due("1", () -> rows().answerDial());
        due("1", () -> rows(0, 1).answerDial());
        due("999", () -> rows(0, 999, 0, 999).answerDial());
        due("999", () -> rows(0, 999, 0, 333, 0, 111).answerDial());
        due("12", () -> rows(0, 4, 0, 6).answerDial());
    }

    private static void clashes() {
        says(51, "what is not 0 or 1");
        for (int what : NO_PARTS) {
            refused(ARGUMENT, Checks::house, x -> x.clash(what));
            refused(ARGUMENT, () -> rows(1, 2, 0, 2), x -> x.clash(what));
        }
        says(51, "`what`: 0 the first place of the CLASH, 1 the second one");
        clashIs(rows(1, 2, 0, 2), 0, 1);
        says(51, "Returns that, or NONE without a CLASH.");
        clashIs(rows(), NONE, NONE);
        clashIs(rows(1, 2), NONE, NONE);
        clashIs(rows(1, 2, 1, 2), NONE, NONE);
        clashIs(sixRows(), NONE, NONE);
        clashIs(rows(0, 1, 0, 1, 0, 1, 0, 1, 1, 2, 0, 2), 4, 5);
    }

    private static void clashIs(Clockhouse x, int first, int second) {
        due(first, () -> x.clash(0));
        due(second, () -> x.clash(1));
    }

    private static void clashOrder() {
        says(TERMS, "The CLASH: of all two that do not AGREE (the first is at the smaller place) those with the smallest "
                + "first place, of several with the smallest second place.");
        // 1 and 2 clash ahead of 0 and 5 in the row, but the first place counts most.
        clashIs(rows(0, 7, 0, 2, 1, 2, 0, 1, 0, 1, 1, 7), 0, 5);
        clashIs(rows(0, 2, 0, 3, 1, 2, 1, 3, 1, 2, 1, 2), 0, 2);
        clashIs(rows(0, 1, 0, 5, 1, 3, 0, 3, 1, 5, 2, 5), 1, 4);
        clashIs(rows(0, 4, 1, 9, 1, 6), 0, 2);
        clashIs(rows(0, 4, 1, 6, 2, 9), 0, 1);
        clashIs(rows(0, 1, 1, 6, 2, 9), 1, 2);
    }

    private static void broken() {
        says(52, "slot is not 0 to 5");
        slotEdges(Checks::house, 1, 0, (x, slot) -> x.broken(slot));
        says(52, "Returns the smallest place of a CONGRUENCE that its NUMBER does not MEET, or NONE.");
        due(NONE, () -> new Clockhouse().broken(0));
        due(NONE, () -> rows(0, 1).broken(0));
        due(0, () -> rows(1, 2).broken(0));
        due(5, () -> rows(0, 1, 0, 2, 0, 3, 0, 4, 0, 5, 1, 6).broken(0));
        due(2, () -> rows(0, 1, 0, 2, 1, 3, 0, 4, 1, 5, 1, 6).broken(0));
        due(NONE, () -> rows(0, 1, 0, 2, 0, 3, 0, 4, 0, 5, 0, 999).broken(0));
        due(NONE, () -> metBy("-1", 998));
        due(NONE, () -> metBy("998", 998));
        due(NONE, () -> metBy(NINES, 0));
        due(NONE, () -> metBy("-" + NINES, 0));
        due(0, () -> metBy("1" + "0".repeat(35), 0));
    }

    private static int metBy(String number, int rest) {
        Clockhouse x = holding(number);
        x.tell(rest, 999);
        return x.broken(0);
    }

    private static void basesCounted() {
        says(53, "Returns how many BASES there are.");
        due(0, () -> new Clockhouse().bases());
        due(1, () -> basesOf(2).bases());
        due(5, () -> basesOf(2, 3, 5, 7, 11).bases());
        due(4, () -> {
            Clockhouse x = basesOf(2, 3, 5, 7, 11);
            x.unbase();
            return x.bases();
        });
    }

    private static void spans() {
        says(54, "Returns the text of the SPAN.");
        due("2", () -> basesOf(2).span());
        due("999", () -> basesOf(999).span());
        due("2310", () -> basesOf(2, 3, 5, 7, 11).span());
        due(productOf(999, 998, 997, 995, 991).toString(), () -> basesOf(999, 998, 997, 995, 991).span());
        says(TERMS, "The SPAN is their product (without any: 1).");
        due("1", () -> basesOf().span());
    }

    /** A house with these bases that holds the number in the SLOT 0 and the other one in the SLOT 5. */
    private static Clockhouse based(String number, String other, int... bases) {
        Clockhouse x = basesOf(bases);
        put(x, 0, number);
        put(x, 5, other);
        return x;
    }

    private static void residues() {
        says(55, "slot is not 0 to 5");
        slotEdges(Checks::house, "3,7", "5,1", (x, slot) -> x.residues(slot));
        says(55, "Returns the RESIDUES of its NUMBER, with \",\" between two (\"\", if there are no BASES).");
        due("", () -> based(NINES, "0").residues(0));
        due("1", () -> based("7", "0", 2).residues(0));
        due("0", () -> based("0", "0", 2).residues(0));
        due("1,0", () -> based("-3", "0", 2, 3).residues(0));
        due("998,997,996,994,990", () -> based("-1", "0", 999, 998, 997, 995, 991).residues(0));
        due("0,0,0,0,0", () -> based("0", "9", 7, 11, 13, 101, 103).residues(0));
        due("2,9,9,9,9", () -> based("0", "9", 7, 11, 13, 101, 103).residues(5));
        due("6,10,12,100,102", () -> based("-1", "9", 7, 11, 13, 101, 103).residues(0));
        says(TERMS, "RESIDUES of a NUMBER: its MOD by each BASE, in their order.");
        due("5,0,1", () -> based("-100", "0", 7, 5, 101).residues(0));
        due("0,1", () -> based(NINES, "0", 999, 2).residues(0));
        due("1,0", () -> based(NINES, "0", 2, 999).residues(0));
    }

    private static void comingBack() {
        says(56, "slot is not 0 to 5");
        slotEdges(Checks::house, "17", "61", (x, slot) -> x.back(slot));
        says(56, "Returns the text of what comes BACK from the RESIDUES of its NUMBER.");
        due("0", () -> based("2", "0", 2).back(0));
        due("1", () -> based("-1", "0", 2).back(0));
        says(TERMS, "that number of 0 to SPAN - 1 which has these RESIDUES (without BASES: 0).");
        due("0", () -> based(NINES, "0").back(0));
        due("2309", () -> based("2309", "0", 2, 3, 5, 7, 11).back(0));
        due("0", () -> based("2310", "0", 2, 3, 5, 7, 11).back(0));
        due("0", () -> based("-2310", "0", 2, 3, 5, 7, 11).back(0));
        due("2309", () -> based("-1", "0", 2, 3, 5, 7, 11).back(0));
        due("1", () -> based("2311", "0", 2, 3, 5, 7, 11).back(0));
        BigInteger span = productOf(999, 998, 997, 995, 991);
        due(span.subtract(BigInteger.ONE).toString(), () -> based("-1", "0", 999, 998, 997, 995, 991).back(0));
        due(new BigInteger(NINES).mod(span).toString(), () -> based(NINES, "0", 999, 998, 997, 995, 991).back(0));
    }

    private static void sumsBack() {
        says(57, "slot or other is not 0 to 5");
        slotEdges(Checks::house, "47", "21", (x, slot) -> x.sumBack(slot, 4));
        slotEdges(Checks::house, "47", "21", (x, slot) -> x.sumBack(4, slot));
        says(57, "`other`: a SLOT (it may be the same)");
        due("34", () -> house().sumBack(0, 0));
        says(57, "Returns the text of what comes BACK from the sums of RESIDUES of both NUMBERS, each MOD its BASE.");
        due("0", () -> based("5", "6").sumBack(0, 5));
        due("2309", () -> based("2308", "1", 2, 3, 5, 7, 11).sumBack(0, 5));
        due("0", () -> based("2309", "1", 2, 3, 5, 7, 11).sumBack(0, 5));
        due("2308", () -> based("-1", "-1", 2, 3, 5, 7, 11).sumBack(0, 5));
        BigInteger span = productOf(999, 998, 997, 995, 991);
        // The sum itself may have more than 36 digits.
        BigInteger twice = new BigInteger(NINES).shiftLeft(1);
        due(twice.mod(span).toString(), () -> based(NINES, NINES, 999, 998, 997, 995, 991).sumBack(0, 5));
        due("0", () -> based(NINES, "-" + NINES, 999, 998, 997, 995, 991).sumBack(0, 5));
    }

    private static void productsBack() {
        says(58, "slot or other is not 0 to 5");
        slotEdges(Checks::house, "66", "68", (x, slot) -> x.productBack(slot, 2));
        slotEdges(Checks::house, "66", "68", (x, slot) -> x.productBack(2, slot));
        says(58, "`other`: a SLOT (it may be the same)");
        due("9", () -> house().productBack(0, 0));
        says(58, "Returns the text of what comes BACK from the products of RESIDUES of both NUMBERS, each MOD its BASE.");
        due("0", () -> based("5", "6").productBack(0, 5));
        due("2309", () -> based("2309", "1", 2, 3, 5, 7, 11).productBack(0, 5));
        due("1", () -> based("2309", "-1", 2, 3, 5, 7, 11).productBack(0, 5));
        due("0", () -> based("1155", "2", 2, 3, 5, 7, 11).productBack(0, 5));
        BigInteger span = productOf(999, 998, 997, 995, 991);
        BigInteger square = new BigInteger(NINES).pow(2);
        due(square.mod(span).toString(), () -> based(NINES, NINES, 999, 998, 997, 995, 991).productBack(0, 5));
        due("1", () -> based("-1", "-1", 999, 998, 997, 995, 991).productBack(0, 5));
    }
}
