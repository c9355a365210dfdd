import java.util.ArrayDeque;

/** The boundary cases of part 5 of the Terms, of the promises 18, 19 and 59, and of what holds for all calls. */
public final class EdgesOfUndoingTest extends Checks {

    public static void main(String[] args) {
        undone();
        sixteenChanges();
        changesWithNothingBehind();
        noChanges();
        undoableAreTwelve();
        thirteenthChange();
        ringTurns();
        undoneAndGoneOn();
        undoingIsNoChange();
        undoneAreAllParts();
        knocked();
        booksAsked();
        jamsCounted();
        missesCounted();
        countsStay();
        asksCountNothing();
        asksChangeNothing();
        exceptionsCountNothing();
        firstNamedException();
        exceptionAheadOfJammed();
        refusedBehindTwelve();
        end("the edges of undoing hold");
    }

    private static Clockhouse changed(int changes) {
        Clockhouse x = new Clockhouse();
        for (int i = 1; i <= changes; i++) {
            x.set(0, i);
        }
        return x;
    }

    private static void undone() {
        says(18, "there is none");
        refused(STATE, Clockhouse::new, x -> x.undo());
        refused(STATE, () -> {
            Clockhouse x = changed(1);
            x.undo();
            return x;
        }, x -> x.undo());
        refused(STATE, () -> {
            Clockhouse x = with(12);
            x.undo();
            x.knock();
            return x;
        }, x -> x.undo());
        says(18, "Returns how many can be undone then.");
        due(0, () -> changed(1).undo());
        due(1, () -> changed(2).undo());
        due(10, () -> changed(11).undo());
        due(11, () -> changed(12).undo());
        due(11, () -> changed(13).undo());
        due(11, () -> changed(300).undo());
        says(18, "Undoes the last CHANGE that can be undone.");
        Clockhouse x = changed(3);
        x.undo();
        due("2", () -> x.number(0));
        x.undo();
        due("1", () -> x.number(0));
        x.undo();
        due("0", () -> x.number(0));
    }

    private static final String[] CHANGE_NAMES = {"dial", "set", "lengthen", "plus", "times", "negate", "reduce",
        "roundPlus", "roundTimes", "roundPower", "roundInverse", "tell", "tellIf", "drop", "base", "unbase"};

    private static final Step[] CHANGES = {x -> x.dial(400), x -> x.set(0, 5), x -> x.lengthen(1, 3),
        x -> x.plus(2, 4), x -> x.times(4, 5), x -> x.negate(5), x -> x.reduce(0), x -> x.roundPlus(1, 4),
        x -> x.roundTimes(2, 4), x -> x.roundPower(4, 2), x -> x.roundInverse(0), x -> x.tell(1, 2),
        x -> x.tellIf(1, 2), x -> x.drop(0), x -> x.base(11), x -> x.unbase()};

    private static final Object[] ANSWERS = {12, 1, 10, 2, 3, 1, 5, 11, 0, 0, 5, 2, true, 1, 2, 10};

    private static void sixteenChanges() {
        says(TERMS, "A CHANGE is what one of these does: dial, set, lengthen, plus, times, negate, reduce, roundPlus, "
                + "roundTimes, roundPower, roundInverse, tell, tellIf, drop, base and unbase");
        for (int i = 0; i < CHANGES.length; i++) {
            int which = i;
            Clockhouse x = house();
            String before = see(x);
            due(ANSWERS[which], () -> CHANGES[which].on(x));
            due(CHANGE_NAMES[which] + " 11", () -> CHANGE_NAMES[which] + " " + x.books(3));
            due(CHANGE_NAMES[which] + " false", () -> CHANGE_NAMES[which] + " " + see(x).equals(before));
            due(10, () -> x.undo());
            due(before, () -> see(x));
            due(house().digest(), () -> x.digest());
        }
    }

    private static void changesWithNothingBehind() {
        says(TERMS, "also if nothing is otherwise behind it");
        Step[] changes = {x -> x.dial(12), x -> x.set(0, 1), x -> x.set(3, 0), x -> x.lengthen(3, 0),
            x -> x.plus(0, 3), x -> x.plus(3, 3), x -> x.times(1, 0), x -> x.times(3, 1), x -> x.negate(3),
            x -> x.reduce(0), x -> x.reduce(3), x -> x.roundPlus(0, 3), x -> x.roundTimes(0, 0),
            x -> x.roundPower(0, 0), x -> x.roundInverse(0)};
        for (Step change : changes) {
            Clockhouse x = with(12, 1, 2);
            String before = see(x);
            change.on(x);
            due(4, () -> x.books(3));
            due(before.replace("undoable 3", "undoable 4"), () -> see(x));
            due(3, () -> x.undo());
            due(before, () -> see(x));
        }
        Clockhouse jammed = with(-9);
        due(-9, () -> jammed.dial(-9));
        due(2, () -> jammed.books(3));
    }

    private static void noChanges() {
        says(TERMS, "but not if it tells JAMMED, MISSED or false, or is refused.");
        Step[] jammed = {x -> x.reduce(0), x -> x.roundPlus(0, 1), x -> x.roundTimes(0, 1), x -> x.roundPower(0, 1),
            x -> x.roundInverse(0)};
        for (Step call : jammed) {
            toldIsNoChange(JAMMED, () -> house(0), call);
        }
        toldIsNoChange(MISSED, Checks::house, x -> x.roundPower(2, 1));
        toldIsNoChange(MISSED, Checks::house, x -> x.roundInverse(2));
        toldIsNoChange(false, Checks::house, x -> x.tellIf(0, 3));
        toldIsNoChange(STATE, () -> holding(NINES), x -> x.plus(0, 0));
        toldIsNoChange(STATE, () -> holding(NINES), x -> x.times(0, 0));
        toldIsNoChange(STATE, () -> holding(NINES), x -> x.lengthen(0, 0));
        toldIsNoChange(STATE, Checks::house, x -> x.base(14));
        toldIsNoChange(STATE, () -> with(12), x -> x.unbase());
        toldIsNoChange(ARGUMENT, Checks::house, x -> x.dial(401));
        toldIsNoChange(ARGUMENT, Checks::house, x -> x.tell(0, 0));
        toldIsNoChange(INDEX, Checks::house, x -> x.drop(2));
    }

    private static void toldIsNoChange(Object due, Maker maker, Step step) {
        Clockhouse x = maker.make();
        due(due, () -> step.on(x));
        sameButCounts(x, maker.make());
    }

    private static void undoableAreTwelve() {
        says(TERMS, "The last 12 CHANGES can be undone, the last one first (with a 13th the oldest is forgotten for good)");
        for (int i = 0; i <= 30; i++) {
            int changes = i;
            Clockhouse x = changed(changes);
            int undoable = Math.min(changes, 12);
            due(undoable, () -> x.books(3));
            for (int j = 1; j <= undoable; j++) {
                int undone = j;
                due(undoable - undone, () -> x.undo());
                due(String.valueOf(changes - undone), () -> x.number(0));
            }
            due(STATE, () -> x.undo());
            due(String.valueOf(changes - undoable), () -> x.number(0));
            due(0, () -> x.books(3));
        }
    }

    private static void thirteenthChange() {
        says(TERMS, "(with a 13th the oldest is forgotten for good)");
        Clockhouse x = new Clockhouse();
        x.dial(7);
        for (int i = 0; i < 12; i++) {
            x.set(0, i);
        }
        due(12, () -> x.books(3));
        for (int i = 0; i < 12; i++) {
            x.undo();
        }
        due(STATE, () -> x.undo());
        due(7, () -> x.size());
        // Forgotten for good: room that is free again does not bring it back.
        x.set(0, 5);
        due(0, () -> x.undo());
        due(STATE, () -> x.undo());
        due(7, () -> x.size());
        Clockhouse y = new Clockhouse();
        y.dial(7);
        for (int i = 0; i < 11; i++) {
            y.set(0, i);
        }
        for (int i = 0; i < 12; i++) {
            y.undo();
        }
        due(12, () -> y.size());
    }

    private static void ringTurns() {
        says(TERMS, "The last 12 CHANGES can be undone, the last one first");
        for (int ahead = 0; ahead <= 14; ahead++) {
            for (int back = 0; back <= Math.min(12, ahead); back++) {
                for (int on : new int[] {0, 1, 6, 11, 12, 13, 25}) {
                    turn(ahead, back, on);
                }
            }
        }
    }

    /** So many changes, so many of them undone, so many new ones; then all is undone that can be. */
    private static void turn(int ahead, int back, int on) {
        Clockhouse x = new Clockhouse();
        ArrayDeque<Integer> before = new ArrayDeque<>();
        int now = 0;
        for (int i = 0; i < ahead + on; i++) {
            if (i == ahead) {
                for (int j = 0; j < back; j++) {
                    x.undo();
                    now = before.removeLast();
                }
            }
            before.addLast(now);
            if (before.size() > 12) {
                before.removeFirst();
            }
            now = 1000 + i;
            x.set(4, now);
        }
        due(before.size(), () -> x.books(3));
        while (!before.isEmpty()) {
            String due = String.valueOf(before.removeLast());
            x.undo();
            due(due, () -> x.number(4));
        }
        due(STATE, () -> x.undo());
    }

    private static void undoneAndGoneOn() {
        says(TERMS, "the last one first");
        Clockhouse x = changed(12);
        for (int i = 0; i < 5; i++) {
            x.undo();
        }
        x.set(0, 100);
        x.set(0, 101);
        due(9, () -> x.books(3));
        due(8, () -> x.undo());
        due("100", () -> x.number(0));
        due(7, () -> x.undo());
        due("7", () -> x.number(0));
        due(6, () -> x.undo());
        due("6", () -> x.number(0));
    }

    private static void undoingIsNoChange() {
        says(TERMS, "Undoing is no CHANGE.");
        Clockhouse x = changed(2);
        due(1, () -> x.undo());
        due(1, () -> x.books(3));
        due(0, () -> x.undo());
        due("0", () -> x.number(0));
        due(0, () -> x.books(3));
        due(STATE, () -> x.undo());
    }

    private static void undoneAreAllParts() {
        says(TERMS, "DIAL, NUMBERS, CONGRUENCES and BASES are then as they were ahead of it.");
        Clockhouse x = house(-9);
        put(x, 0, "-" + NINES.substring(0, 27));
        String before = see(x);
        x.dial(400);
        for (int i = 0; i < 2; i++) {
            x.drop(0);
            x.unbase();
        }
        x.lengthen(0, 999999999);
        x.set(5, 1);
        x.tell(5, 999);
        x.base(999);
        x.negate(1);
        x.reduce(2);
        due(12, () -> x.books(3));
        for (int i = 0; i < 11; i++) {
            x.undo();
        }
        due(before.replaceAll("undoable .*", ""), () -> see(x).replaceAll("undoable .*", ""));
        // Rows that were full, and the order in them.
        Clockhouse y = new Clockhouse();
        for (int i = 0; i < 6; i++) {
            y.tell(i, 7 + i);
        }
        for (int base : new int[] {5, 4, 3, 7, 11}) {
            y.base(base);
        }
        String full = see(y);
        y.drop(2);
        due(11, () -> y.undo());
        due(full, () -> see(y));
        y.unbase();
        y.undo();
        due(full, () -> see(y));
        due(STATE, () -> y.base(13));
        due(STATE, () -> y.tell(0, 1));
    }

    private static void knocked() {
        says(19, "Returns how many KNOCKS there were, with this.");
        Clockhouse x = house();
        due(1, () -> x.knock());
        due(2, () -> x.knock());
        due(9, () -> x.undo());
        due(3, () -> x.knock());
        Clockhouse y = new Clockhouse();
        for (int i = 1; i <= 500; i++) {
            int count = i;
            due(count, () -> y.knock());
        }
        says(TERMS, "KNOCKS are counted, too.");
        due(500, () -> y.books(2));
        due(0, () -> y.books(3));
        due(0, () -> new Clockhouse().books(2));
        due(1, () -> new Clockhouse().knock());
    }

    private static void booksAsked() {
        says(59, "what is not 0 to 3");
        for (int what : new int[] {-1, 4, Integer.MIN_VALUE, Integer.MAX_VALUE}) {
            refused(ARGUMENT, Checks::house, x -> x.books(what));
        }
        says(59, "`what`: 0 JAMS, 1 MISSES, 2 KNOCKS, 3 how many CHANGES can be undone");
        Clockhouse x = house();
        x.roundInverse(2);
        x.roundPower(2, 1);
        x.knock();
        x.knock();
        x.knock();
        x.dial(0);
        x.reduce(0);
        booksAre(x, 1, 2, 3, 11);
        says(59, "Returns that.");
        booksAre(new Clockhouse(), 0, 0, 0, 0);
        booksAre(changed(12), 0, 0, 0, 12);
        booksAre(changed(13), 0, 0, 0, 12);
    }

    private static void booksAre(Clockhouse x, int jams, int misses, int knocks, int undoable) {
        due(jams, () -> x.books(0));
        due(misses, () -> x.books(1));
        due(knocks, () -> x.books(2));
        due(undoable, () -> x.books(3));
    }

    private static void jamsCounted() {
        says(TERMS, "JAMS: how often reduce, roundPlus, roundTimes, roundPower or roundInverse told JAMMED");
        Step[] calls = {x -> x.reduce(0), x -> x.roundPlus(0, 0), x -> x.roundTimes(0, 0), x -> x.roundPower(0, 0),
            x -> x.roundInverse(0)};
        Clockhouse x = house(0);
        for (int i = 0; i < calls.length; i++) {
            int which = i;
            due(JAMMED, () -> calls[which].on(x));
            booksAre(x, i + 1, 0, 0, 11);
        }
        // A DIAL that is told, even the -9 that was before, is no JAM.
        Clockhouse y = with(-9);
        due(-9, () -> y.dial(12));
        due(5, () -> {
            y.set(0, 5);
            return y.reduce(0);
        });
        booksAre(y, 0, 0, 0, 4);
    }

    private static void missesCounted() {
        says(TERMS, "MISSES: how often they told MISSED.");
        Clockhouse x = house();
        due(MISSED, () -> x.roundPower(2, 1));
        booksAre(x, 0, 1, 0, 10);
        due(MISSED, () -> x.roundInverse(2));
        booksAre(x, 0, 2, 0, 10);
        due(MISSED, () -> x.roundPower(4, 5));
        booksAre(x, 0, 3, 0, 10);
        x.dial(-8);
        due(-8, () -> x.dial(0));
        due(false, () -> x.tellIf(0, 3));
        booksAre(x, 0, 3, 0, 12);
        // JAMMED comes ahead, and alone is counted.
        due(JAMMED, () -> x.roundInverse(2));
        booksAre(x, 1, 3, 0, 12);
    }

    private static void countsStay() {
        says(TERMS, "These counts are never undone");
        Clockhouse x = house();
        x.roundInverse(2);
        x.set(0, 7);
        x.knock();
        x.dial(0);
        x.reduce(0);
        booksAre(x, 1, 1, 1, 12);
        for (int i = 11; i >= 0; i--) {
            x.undo();
            booksAre(x, 1, 1, 1, i);
        }
        due(12, () -> x.size());
        due(2, () -> x.knock());
    }

    private static final Step[] ASKS = {x -> x.number(0), x -> x.digits(0), x -> x.bigGcd(0, 1), x -> x.bigMod(1, 4),
        x -> x.bigMod(0, 3), x -> x.bigInverse(0, 4), x -> x.bigInverse(2, 4), x -> x.bigInverse(0, 1),
        x -> x.bigPower(0, 1, 4), x -> x.bigPower(2, 1, 4), x -> x.bigPower(0, 1, 3), x -> x.size(), x -> x.mod(1),
        x -> x.gcd(1), x -> x.power(0, 1), x -> x.power(2, 1), x -> x.inverse(0), x -> x.inverse(2),
        x -> x.solutions(0, 4), x -> x.solution(0, 4, 0), x -> x.units(), x -> x.order(0), x -> x.order(2),
        x -> x.generator(0), x -> x.isGenerator(0), x -> x.powers(0), x -> x.ofPowers(0, 3), x -> x.roots(0),
        x -> x.root(0, 0), x -> x.isPrime(), x -> x.legendre(0), x -> x.jacobi(0), x -> x.rows(),
        x -> x.ofRow(0, 0), x -> x.agree(0, 1), x -> x.isJoined(), x -> x.wouldJoin(0, 3), x -> x.wouldJoin(2, 3),
        x -> x.answer(), x -> x.answerDial(), x -> x.clash(0), x -> x.broken(0), x -> x.bases(), x -> x.span(),
        x -> x.residues(0), x -> x.back(0), x -> x.sumBack(0, 1), x -> x.productBack(0, 1), x -> x.books(3),
        x -> x.isSound(), x -> x.digest()};

    private static void asksCountNothing() {
        says(TERMS, "what only asks counts nothing.");
        for (int dial : new int[] {-9, 0, 1, 2, 12, 397}) {
            Clockhouse x = house(dial);
            for (Step ask : ASKS) {
                ask.on(x);
            }
            booksAre(x, 0, 0, 0, 11);
        }
    }

    private static void asksChangeNothing() {
        says(TERMS, "What one asks for changes nothing.");
        for (int dial : new int[] {-9, 0, 1, 12, 397}) {
            for (Step ask : ASKS) {
                Clockhouse asked = house(dial);
                Object first = ask.on(asked);
                due(first, () -> ask.on(asked));
                sameBehind(asked, house(dial));
            }
        }
    }

    private static void exceptionsCountNothing() {
        says(TERMS, "A method that throws an exception changes nothing.");
        Maker[] makers = {Checks::house, () -> house(0), () -> house(397)};
        for (Maker maker : makers) {
            for (int slot : NO_SLOTS) {
                refused(INDEX, maker, x -> x.reduce(slot));
                refused(INDEX, maker, x -> x.roundPlus(slot, 0));
                refused(INDEX, maker, x -> x.roundTimes(0, slot));
                refused(INDEX, maker, x -> x.roundPower(2, slot));
                refused(INDEX, maker, x -> x.roundInverse(slot));
            }
        }
        refused(STATE, () -> holding(NINES, "1"), x -> x.plus(0, 1));
        refused(STATE, () -> holding("-" + NINES, "-" + NINES), x -> x.times(0, 1));
        refused(STATE, () -> holding(tenTo(27)), x -> x.lengthen(0, 5));
    }

    private static void firstNamedException() {
        says(TERMS, "If several exceptions apply, the one that is named first is thrown.");
        refused(INDEX, Checks::house, x -> x.lengthen(6, -1));
        refused(INDEX, Checks::house, x -> x.lengthen(-1, 1000000000));
        refused(ARGUMENT, () -> holding(NINES), x -> x.lengthen(0, -1));
        refused(ARGUMENT, () -> holding(NINES), x -> x.lengthen(0, 1000000000));
        refused(STATE, () -> holding(NINES), x -> x.lengthen(0, 999999999));
        refused(INDEX, () -> holding(NINES), x -> x.plus(0, 6));
        refused(INDEX, () -> holding(NINES), x -> x.times(-1, 0));
        Maker full = () -> {
            Clockhouse x = new Clockhouse();
            for (int i = 0; i < 6; i++) {
                x.tell(0, 2 + i);
            }
            for (int base : new int[] {2, 3, 5, 7, 11}) {
                x.base(base);
            }
            return x;
        };
        refused(ARGUMENT, full, x -> x.tell(10000, 5));
        refused(ARGUMENT, full, x -> x.tell(0, 1000));
        refused(ARGUMENT, full, x -> x.tellIf(-10000, 5));
        refused(ARGUMENT, full, x -> x.tellIf(1, 0));
        refused(STATE, full, x -> x.tellIf(1, 2));
        refused(ARGUMENT, full, x -> x.base(1));
        refused(ARGUMENT, full, x -> x.base(1000));
        refused(STATE, full, x -> x.base(2));
        refused(INDEX, Checks::house, x -> x.solution(6, 0, -1));
        refused(INDEX, Checks::house, x -> x.solution(0, -1, -1));
        refused(INDEX, Checks::house, x -> x.ofPowers(6, 4));
        refused(INDEX, Checks::house, x -> x.ofPowers(-1, -1));
        refused(INDEX, Checks::house, x -> x.root(6, -1));
        refused(INDEX, Checks::house, x -> x.ofRow(2, 2));
        refused(INDEX, Checks::house, x -> x.ofRow(-1, -1));
    }

    private static void exceptionAheadOfJammed() {
        says(TERMS, "An exception comes ahead of JAMMED");
        Step[] noSlot = {x -> x.reduce(6), x -> x.roundPlus(6, 0), x -> x.roundPlus(0, 6), x -> x.roundTimes(6, 0),
            x -> x.roundTimes(0, 6), x -> x.roundPower(6, 0), x -> x.roundPower(0, 6), x -> x.roundInverse(6),
            x -> x.mod(6), x -> x.gcd(6), x -> x.power(6, 0), x -> x.power(0, 6), x -> x.inverse(6),
            x -> x.solutions(6, 0), x -> x.solutions(0, 6), x -> x.solution(6, 0, 0), x -> x.solution(0, 6, 0),
            x -> x.order(6), x -> x.isGenerator(6), x -> x.powers(6), x -> x.ofPowers(6, 0), x -> x.roots(6),
            x -> x.root(6, 0), x -> x.legendre(6), x -> x.jacobi(6)};
        Step[] noArgument = {x -> x.solution(0, 0, -1), x -> x.generator(-1), x -> x.ofPowers(0, 4),
            x -> x.ofPowers(0, -1), x -> x.root(0, -1)};
        for (int dial : new int[] {-9, -8, 0}) {
            for (Step call : noSlot) {
                refused(INDEX, () -> house(dial), call);
            }
            for (Step call : noArgument) {
                refused(ARGUMENT, () -> house(dial), call);
            }
        }
        // Ahead of MISSED, too: 8 has no INVERSE by 12, which is no odd prime and even.
        refused(INDEX, Checks::house, x -> x.roundPower(2, 6));
        refused(INDEX, Checks::house, x -> x.legendre(6));
        refused(INDEX, Checks::house, x -> x.jacobi(6));
    }

    private static void refusedBehindTwelve() {
        says(TERMS, "A method that throws an exception changes nothing.");
        // With twelve CHANGES behind it, a refusal must not push the oldest one out.
        Maker twelve = () -> {
            Clockhouse x = house();
            put(x, 0, NINES.substring(0, 9));
            x.tell(1, 2);
            return x;
        };
        refused(ARGUMENT, twelve, x -> x.dial(-10));
        refused(INDEX, twelve, x -> x.set(6, 0));
        refused(INDEX, twelve, x -> x.negate(6));
        refused(ARGUMENT, twelve, x -> x.lengthen(0, -1));
        refused(ARGUMENT, twelve, x -> x.tell(0, 0));
        refused(ARGUMENT, twelve, x -> x.tellIf(0, 0));
        refused(INDEX, twelve, x -> x.drop(3));
        refused(STATE, twelve, x -> x.base(7));
        tells(false, twelve, x -> x.tellIf(0, 2));
        toldIsNoChange(MISSED, twelve, x -> x.roundInverse(2));
        toldIsNoChange(MISSED, twelve, x -> x.roundPower(2, 1));
        Maker full = () -> {
            Clockhouse x = house();
            put(x, 0, NINES);
            return x;
        };
        refused(STATE, full, x -> x.plus(0, 0));
        refused(STATE, full, x -> x.times(0, 0));
        refused(STATE, full, x -> x.lengthen(0, 0));
        Maker empty = () -> changed(12);
        refused(STATE, empty, x -> x.unbase());
        refused(INDEX, empty, x -> x.drop(0));
    }
}
