/** What the tests share: answers that are due, houses to ask, and all that one can see of a house. */
class Checks {

    static final String INDEX = "IndexOutOfBoundsException";
    static final String ARGUMENT = "IllegalArgumentException";
    static final String STATE = "IllegalStateException";

    static final int NONE = -1;
    static final int MISSED = -8;
    static final int JAMMED = -9;

    static final int TERMS = 0;
    static final int[] NO_SLOTS = {-1, 6, Integer.MIN_VALUE, Integer.MAX_VALUE};
    static final String NINES = "9".repeat(36);

    private static int wrong = 0;
    private static String sentence = "";

    interface Call {
        Object make();
    }

    interface Maker {
        Clockhouse make();
    }

    interface Step {
        Object on(Clockhouse x);
    }

    interface SlotStep {
        Object on(Clockhouse x, int slot);
    }

    /** Which sentence of the document is tried from here on, word by word: SentencesTest looks it up there. */
    static void says(int promise, String text) {
        sentence = (promise == TERMS ? "Terms" : "promise " + promise) + ": " + text;
    }

    static void due(int promise, Object due, Call call) {
        sentence = "promise " + promise;
        due(due, call);
    }

    static void due(Object due, Call call) {
        Object got;
        try {
            got = call.make();
        } catch (RuntimeException e) {
            got = e.getClass().getSimpleName();
        }
        if (!due.equals(got)) {
            fault("answered " + got + ", due is " + due);
        }
    }

    static void fault(String text) {
        wrong++;
        System.out.println(sentence + ": " + text + ", at " + place());
    }

    private static StackTraceElement place() {
        for (StackTraceElement at : new Throwable().getStackTrace()) {
            if (!at.getClassName().startsWith("Checks")) {
                return at;
            }
        }
        return null;
    }

    static void end(String allIsWell) {
        System.out.println(wrong == 0 ? allIsWell : wrong + " answers are not as due");
        if (wrong != 0) {
            System.exit(1);
        }
    }

    /** All that one can see of a house in few calls: an object is promised for 512 of them alone. */
    static String see(Clockhouse x) {
        StringBuilder seen = new StringBuilder("dial ").append(x.size()).append(", numbers");
        for (int slot = 0; slot < 6; slot++) {
            seen.append(' ').append(x.number(slot));
        }
        seen.append(", rows");
        int rows = x.rows();
        for (int place = 0; place < rows; place++) {
            seen.append(' ').append(x.ofRow(place, 0)).append('/').append(x.ofRow(place, 1));
        }
        seen.append(", span ").append(x.span()).append(", residues ").append(x.residues(5));
        seen.append(", undoable ").append(x.books(3));
        return seen.toString();
    }

    /** Both houses show the same, and all the way back that they can be undone. */
    static void sameBehind(Clockhouse tried, Clockhouse twin) {
        due(twin.digest(), () -> tried.digest());
        sameButCounts(tried, twin);
    }

    static void sameButCounts(Clockhouse tried, Clockhouse twin) {
        due(see(twin), () -> see(tried));
        int left = twin.books(3);
        for (int i = 0; i < left; i++) {
            twin.undo();
            due(twin.books(3), () -> tried.undo());
            due(see(twin), () -> see(tried));
        }
        due(STATE, () -> tried.undo());
    }

    /** The call is refused, and nothing has changed behind it. */
    static void refused(String exception, Maker maker, Step step) {
        tells(exception, maker, step);
    }

    /** The call has that answer and changes nothing, counts nothing and is no CHANGE. */
    static void tells(Object due, Maker maker, Step step) {
        Clockhouse tried = maker.make();
        due(due, () -> step.on(tried));
        sameBehind(tried, maker.make());
    }

    /** The first and the last SLOT, and what lies beside them. */
    static void slotEdges(Maker maker, Object dueAtFirst, Object dueAtLast, SlotStep step) {
        Clockhouse first = maker.make();
        due(dueAtFirst, () -> step.on(first, 0));
        Clockhouse last = maker.make();
        due(dueAtLast, () -> step.on(last, 5));
        for (int slot : NO_SLOTS) {
            refused(INDEX, maker, x -> step.on(x, slot));
        }
    }

    /** All of it is in use: DIAL 12, NUMBERS 17, -7, 8, 0, 30, -9, two CONGRUENCES, two BASES, ten CHANGES. */
    static Clockhouse house() {
        Clockhouse x = new Clockhouse();
        int[] numbers = {17, -7, 8, 0, 30, -9};
        for (int slot = 0; slot < 6; slot++) {
            x.set(slot, numbers[slot]);
        }
        x.tell(2, 3);
        x.tell(3, 5);
        x.base(7);
        x.base(10);
        return x;
    }

    static Clockhouse house(int dial) {
        Clockhouse x = house();
        x.dial(dial);
        return x;
    }

    static Clockhouse with(int dial, int... numbers) {
        Clockhouse x = new Clockhouse();
        x.dial(dial);
        for (int i = 0; i < numbers.length; i++) {
            x.set(i, numbers[i]);
        }
        return x;
    }

    /** A new house with these NUMBERS, of any digits, from the SLOT 0 on. */
    static Clockhouse holding(String... texts) {
        Clockhouse x = new Clockhouse();
        for (int i = 0; i < texts.length; i++) {
            put(x, i, texts[i]);
        }
        return x;
    }

    /** Makes a number of any digits in a slot. */
    static void put(Clockhouse x, int slot, String text) {
        boolean below = text.startsWith("-");
        String digits = below ? text.substring(1) : text;
        int first = (digits.length() - 1) % 9 + 1;
        x.set(slot, Integer.parseInt(digits.substring(0, first)));
        for (int i = first; i < digits.length(); i += 9) {
            x.lengthen(slot, Integer.parseInt(digits.substring(i, i + 9)));
        }
        if (below) {
            x.negate(slot);
        }
    }

    /** 1 with that many digits 0 behind it. */
    static String tenTo(int zeros) {
        return "1" + "0".repeat(zeros);
    }
}
