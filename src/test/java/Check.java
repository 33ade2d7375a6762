import java.util.Arrays;
import java.util.function.IntSupplier;
import java.util.function.Supplier;
import java.util.function.ToIntFunction;

/** What the tests share: dues that are counted, exceptions that change nothing, texts that are given. */
final class Check {
    private static int asked = 0;
    private static int wrong = 0;

    private Check() {
    }

    static void due(String call, long got, long want) {
        asked++;
        if (got != want) {
            report(call + " answered " + got + ", due is " + want);
        }
    }

    static void dueDouble(String call, double got, double want) {
        asked++;
        if (Double.doubleToRawLongBits(got) != Double.doubleToRawLongBits(want)) {
            report(call + " answered " + got + ", due is " + want);
        }
    }

    static void dueTrue(String claim, boolean holds) {
        asked++;
        if (!holds) {
            report("does not hold: " + claim);
        }
    }

    /** The call throws exactly this exception and changes nothing. */
    static void dueThrow(String call, BondLayers x, Class<? extends RuntimeException> type, IntSupplier run) {
        asked++;
        long before = x.digest();
        int errorBefore = x.firstError();
        try {
            int got = run.getAsInt();
            report(call + " answered " + got + ", due is " + type.getSimpleName());
        } catch (RuntimeException thrown) {
            if (thrown.getClass() != type) {
                report(call + " threw " + thrown + ", due is " + type.getSimpleName());
            }
        }
        due(call + ", then digest()", x.digest(), before);
        due(call + ", then firstError()", x.firstError(), errorBefore);
    }

    /**
     * The call is refused by exactly this exception, and what comes after it is what comes after
     * an object that was made alike and was not asked: the saved states, the milestones, the buffer.
     */
    static void dueRefused(String call, Class<? extends RuntimeException> type, Supplier<BondLayers> made,
            ToIntFunction<BondLayers> run) {
        BondLayers undone = made.get();
        dueThrow(call, undone, type, () -> run.applyAsInt(undone));
        dueTrue(call + " leaves the saved states", Arrays.equals(undos(undone), undos(made.get())));
        BondLayers reached = made.get();
        dueThrow(call, reached, type, () -> run.applyAsInt(reached));
        dueTrue(call + " leaves the bonds and the buffer", Arrays.equals(reaches(reached), reaches(made.get())));
    }

    private static long[] undos(BondLayers x) {
        long[] seen = new long[8];
        for (int times = 0; times < seen.length; times++) {
            seen[times] = x.count(9) > 0 ? 1000L + x.undo() + 31 * x.digest() : 0;
        }
        return seen;
    }

    private static long[] reaches(BondLayers x) {
        long[] seen = new long[x.count(0) + 2];
        for (int bond = 0; bond < x.count(0); bond++) {
            while (x.bond(bond, 11) == 1 && x.bond(bond, 5) < x.bond(bond, 4)) {
                seen[bond] = 1000003L * seen[bond] + x.reach(bond);
            }
        }
        seen[x.count(0)] = x.digest();
        seen[x.count(0) + 1] = x.clearBuffer();
        return seen;
    }

    static void dueIndex(String call, BondLayers x, IntSupplier run) {
        dueThrow(call, x, IndexOutOfBoundsException.class, run);
    }

    static void dueArgument(String call, BondLayers x, IntSupplier run) {
        dueThrow(call, x, IllegalArgumentException.class, run);
    }

    static void dueState(String call, BondLayers x, IntSupplier run) {
        dueThrow(call, x, IllegalStateException.class, run);
    }

    /** Puts a text into the emptied buffer. */
    static void write(BondLayers x, String text) {
        x.clearBuffer();
        for (int index = 0; index < text.length(); index++) {
            x.append(text.charAt(index));
        }
    }

    static int give(BondLayers x, String text) {
        write(x, text);
        return x.give();
    }

    /** An object whose persons 0, 1, 2 .. have these amounts of cash. */
    static BondLayers withCash(int... amounts) {
        BondLayers x = new BondLayers();
        for (int person = 0; person < amounts.length; person++) {
            if (amounts[person] > 0) {
                x.bring(person, amounts[person]);
            }
        }
        return x;
    }

    /** An object that has this text in the buffer, too. */
    static BondLayers withText(String text, int... amounts) {
        BondLayers x = withCash(amounts);
        write(x, text);
        return x;
    }

    /** An object that has been given the bond 0 of this text, too. */
    static BondLayers withBond(String text, int... amounts) {
        BondLayers x = withCash(amounts);
        due("give() of " + text, give(x, text), 0);
        return x;
    }

    /** What the layers of a bond paid so far, layer by layer. */
    static void duePaid(String call, BondLayers x, int bond, int... paid) {
        for (int layer = 0; layer < paid.length; layer++) {
            due(call + ", then layer(" + bond + ", " + layer + ", 3)", x.layer(bond, layer, 3), paid[layer]);
        }
    }

    /** What a person owes to the persons 0, 1, 2 .. */
    static void dueDebts(String call, BondLayers x, int person, int... debts) {
        for (int other = 0; other < debts.length; other++) {
            due(call + ", then debt(" + person + ", " + other + ")", x.debt(person, other), debts[other]);
        }
    }

    static void dueCash(String call, BondLayers x, int... amounts) {
        for (int person = 0; person < amounts.length; person++) {
            due(call + ", then person(" + person + ", 0)", x.person(person, 0), amounts[person]);
        }
    }

    /** What is left of the limits of a bond, layer by layer. */
    static void dueLeft(String call, BondLayers x, int bond, int... lefts) {
        for (int layer = 0; layer < lefts.length; layer++) {
            due(call + ", then layer(" + bond + ", " + layer + ", 2)", x.layer(bond, layer, 2), lefts[layer]);
        }
    }

    static void end(String test) {
        System.out.println(test + ": " + asked + " answers, " + wrong + " wrong");
        if (wrong != 0) {
            System.exit(1);
        }
    }

    static boolean hasWrong() {
        return wrong != 0;
    }

    private static void report(String line) {
        wrong++;
        if (wrong <= 40) {
            System.out.println(line);
        }
    }
}
