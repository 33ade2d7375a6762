import java.util.List;
import java.util.function.Supplier;
import java.util.function.ToIntFunction;

/**
 * "Exceptions" of the document: "A call that throws an exception changes nothing. If several
 * exceptions apply, the one that is named first in the throws clause is thrown." For each method:
 * each exception by each of its reasons, the first one where several apply, and nothing changed
 * (what is seen, what the saved states bring back, what the milestones release, the buffer).
 */
public final class RefusedTest {
    private static final int MIN = Integer.MIN_VALUE;
    private static final int MAX = Integer.MAX_VALUE;
    private static final int[] NO_PERSON = {-1, 8, -2, 9, MIN, MAX};
    private static final int[] NO_AMOUNT = {0, 100000, -1, 100001, MIN, MAX};
    private static final int[] NO_BOND = {3, -1, 4, 9, 10, MIN, MAX};

    private RefusedTest() {
    }

    public static void main(String[] args) {
        bring();
        takeOut();
        guarantee();
        repay();
        set();
        call();
        reach();
        end();
        append();
        giveOfWrongBonds();
        giveOfWrongBondsThatAreTooMuch();
        giveOfTooMuch();
        undo();
        looks();
        whatWouldBe();
        withoutBonds();
        Check.end("RefusedTest");
    }

    /**
     * Cash 0, 0, 167; person 3 stands for person 0; person 0 owes 50 to 1 and to 3, person 1 owes 33
     * to 2, who is bound for 157. Bonds 0 and 1 run, bond 2 was ended. Six states are saved.
     */
    private static BondLayers busy() {
        BondLayers x = Check.withCash(10, 300, 200, 50);
        x.guarantee(0, 3, 50);
        Check.give(x, "p0s400:1*200+2*100@250+500l");
        Check.give(x, "p1s300:2*100+0*20@1e");
        Check.give(x, "p0s50:2*50@100+900l");
        x.call(0, 110, 5);
        x.reach(0);
        x.takeOut(1, 200);
        x.call(1, 90, 5);
        x.end(2);
        Check.write(x, "p0s4");
        return x;
    }

    private static void index(String call, ToIntFunction<BondLayers> run) {
        Check.dueRefused(call, IndexOutOfBoundsException.class, RefusedTest::busy, run);
    }

    private static void argument(String call, ToIntFunction<BondLayers> run) {
        Check.dueRefused(call, IllegalArgumentException.class, RefusedTest::busy, run);
    }

    private static void state(String call, ToIntFunction<BondLayers> run) {
        Check.dueRefused(call, IllegalStateException.class, RefusedTest::busy, run);
    }

    /** Promise 2. */
    private static void bring() {
        for (int person : NO_PERSON) {
            index("bring(" + person + ", 1)", x -> x.bring(person, 1));
            index("bring(" + person + ", 0), amount too", x -> x.bring(person, 0));
            index("bring(" + person + ", 100000), amount too", x -> x.bring(person, 100000));
        }
        for (int amount : NO_AMOUNT) {
            argument("bring(0, " + amount + ")", x -> x.bring(0, amount));
            argument("bring(7, " + amount + ")", x -> x.bring(7, amount));
        }
    }

    /** Promise 3. */
    private static void takeOut() {
        for (int person : NO_PERSON) {
            index("takeOut(" + person + ", 1)", x -> x.takeOut(person, 1));
            index("takeOut(" + person + ", 0), amount too", x -> x.takeOut(person, 0));
            index("takeOut(" + person + ", 100000), amount too", x -> x.takeOut(person, 100000));
        }
        for (int amount : NO_AMOUNT) {
            argument("takeOut(2, " + amount + ")", x -> x.takeOut(2, amount));
            argument("takeOut(0, " + amount + "), the cash is less too", x -> x.takeOut(0, amount));
        }
        state("takeOut(3, 1) without cash", x -> x.takeOut(3, 1));
        state("takeOut(0, 1) without cash, bound", x -> x.takeOut(0, 1));
        state("takeOut(2, 168) of 167", x -> x.takeOut(2, 168));
        state("takeOut(2, 137), 31 are to be kept", x -> x.takeOut(2, 137));
        state("takeOut(2, 167), 31 are to be kept", x -> x.takeOut(2, 167));
        state("takeOut(2, 99999)", x -> x.takeOut(2, 99999));
        Check.due("takeOut(2, 136)", busy().takeOut(2, 136), 31);
    }

    /** Promise 4. */
    private static void guarantee() {
        for (int person : NO_PERSON) {
            index("guarantee(" + person + ", 0, 50)", x -> x.guarantee(person, 0, 50));
            index("guarantee(" + person + ", NONE, 50)", x -> x.guarantee(person, BondLayers.NONE, 50));
            index("guarantee(" + person + ", 0, 0), percent too", x -> x.guarantee(person, 0, 0));
            index("guarantee(" + person + ", " + person + ", 101), all", x -> x.guarantee(person, person, 101));
            if (person != BondLayers.NONE) {
                index("guarantee(0, " + person + ", 50)", x -> x.guarantee(0, person, 50));
                index("guarantee(0, " + person + ", 0), percent too", x -> x.guarantee(0, person, 0));
                index("guarantee(3, " + person + ", 101), percent too", x -> x.guarantee(3, person, 101));
            }
        }
        for (int percent : new int[] {0, 101, -1, 102, MIN, MAX}) {
            argument("guarantee(1, 2, " + percent + ")", x -> x.guarantee(1, 2, percent));
            argument("guarantee(0, 3, " + percent + ")", x -> x.guarantee(0, 3, percent));
            argument("guarantee(3, 0, " + percent + "), the own chain too", x -> x.guarantee(3, 0, percent));
            argument("guarantee(3, 3, " + percent + "), the own chain too", x -> x.guarantee(3, 3, percent));
        }
        state("guarantee(3, 0, 50), 0 has 3", x -> x.guarantee(3, 0, 50));
        state("guarantee(3, 3, 1)", x -> x.guarantee(3, 3, 1));
        state("guarantee(0, 0, 100)", x -> x.guarantee(0, 0, 100));
        Check.due("guarantee(0, NONE, 0)", busy().guarantee(0, BondLayers.NONE, 0), 3);
    }

    /** Promise 5. */
    private static void repay() {
        for (int person : NO_PERSON) {
            index("repay(" + person + ", 1, 1)", x -> x.repay(person, 1, 1));
            index("repay(0, " + person + ", 1)", x -> x.repay(0, person, 1));
            index("repay(" + person + ", " + person + ", 1)", x -> x.repay(person, person, 1));
            index("repay(" + person + ", 1, 0), amount too", x -> x.repay(person, 1, 0));
            index("repay(0, " + person + ", 100000), amount too", x -> x.repay(0, person, 100000));
        }
        for (int amount : NO_AMOUNT) {
            argument("repay(1, 2, " + amount + ")", x -> x.repay(1, 2, amount));
            argument("repay(2, 1, " + amount + "), nothing owed too", x -> x.repay(2, 1, amount));
            argument("repay(2, 2, " + amount + "), to oneself too", x -> x.repay(2, 2, amount));
        }
        state("repay(0, 1, 1) without cash", x -> x.repay(0, 1, 1));
        state("repay(2, 1, 1), nothing is owed", x -> x.repay(2, 1, 1));
        state("repay(2, 2, 1), nothing is owed to oneself", x -> x.repay(2, 2, 1));
        state("repay(1, 2, 34) of 33, without cash", x -> x.repay(1, 2, 34));
    }

    /** Promise 6. */
    private static void set() {
        for (int setting : new int[] {-1, 3, -2, 4, MIN, MAX}) {
            index("set(" + setting + ", 5)", x -> x.set(setting, 5));
            index("set(" + setting + ", -1), value too", x -> x.set(setting, -1));
            index("set(" + setting + ", 101), value too", x -> x.set(setting, 101));
        }
        for (int value : new int[] {-1, 101, MIN, MAX}) {
            for (int setting = 0; setting < 3; setting++) {
                int each = setting;
                argument("set(" + setting + ", " + value + ")", x -> x.set(each, value));
            }
        }
        argument("set(0, 10)", x -> x.set(0, 10));
        argument("set(2, 10)", x -> x.set(2, 10));
        argument("set(2, 0)", x -> x.set(2, 0));
    }

    /** Promise 7. */
    private static void call() {
        for (int bond : NO_BOND) {
            index("call(" + bond + ", 1, 9)", x -> x.call(bond, 1, 9));
            index("call(" + bond + ", 0, 9), amount too", x -> x.call(bond, 0, 9));
            index("call(" + bond + ", 1, 10), proof too", x -> x.call(bond, 1, 10));
            index("call(" + bond + ", 1, 0), less proof too", x -> x.call(bond, 1, 0));
        }
        for (int amount : NO_AMOUNT) {
            argument("call(0, " + amount + ", 9)", x -> x.call(0, amount, 9));
            argument("call(0, " + amount + ", 4), less proof too", x -> x.call(0, amount, 4));
            argument("call(2, " + amount + ", 9), ended too", x -> x.call(2, amount, 9));
        }
        for (int proof : new int[] {-1, 10, -2, 11, MIN, MAX}) {
            argument("call(0, 1, " + proof + ")", x -> x.call(0, 1, proof));
            argument("call(2, 1, " + proof + "), ended too", x -> x.call(2, 1, proof));
            argument("call(2, 0, " + proof + "), amount too", x -> x.call(2, 0, proof));
        }
        for (int proof = 0; proof <= 9; proof++) {
            int each = proof;
            state("call(2, 1, " + proof + "), ended", x -> x.call(2, 1, each));
            if (proof < 5) {
                state("call(0, 1, " + proof + ")", x -> x.call(0, 1, each));
            } else {
                // persons 0 and 1 have no cash, person 2 pays by the second layer
                Check.due("call(0, 2, " + proof + ")", busy().call(0, 2, proof), 2);
            }
        }
    }

    /** Promise 8. */
    private static void reach() {
        for (int bond : NO_BOND) {
            index("reach(" + bond + ")", x -> x.reach(bond));
        }
        state("reach(2), ended", x -> x.reach(2));
        Supplier<BondLayers> reached = () -> {
            BondLayers x = busy();
            x.reach(0);
            x.reach(1);
            return x;
        };
        Check.dueRefused("reach(0), both were reached", IllegalStateException.class, reached, x -> x.reach(0));
        Check.dueRefused("reach(1), the one was reached", IllegalStateException.class, reached, x -> x.reach(1));
        Check.dueRefused("reach(2), ended", IllegalStateException.class, reached, x -> x.reach(2));
    }

    /** Promise 9. */
    private static void end() {
        for (int bond : NO_BOND) {
            index("end(" + bond + ")", x -> x.end(bond));
        }
        state("end(2) again", x -> x.end(2));
    }

    /** Promise 10. */
    private static void append() {
        for (int code : new int[] {32, 127, -1, 0, MIN, MAX}) {
            argument("append(" + code + ")", x -> x.append(code));
            Check.dueRefused("append(" + code + ") to 60", IllegalArgumentException.class,
                () -> Check.withText("p".repeat(60), 1), x -> x.append(code));
        }
        Check.dueRefused("append(112) to 60", IllegalStateException.class,
            () -> Check.withText("p".repeat(60), 1), x -> x.append('p'));
    }

    /** Promise 13: the reasons of IllegalArgumentException, each alone. */
    private static void giveOfWrongBonds() {
        String[] wrong = {"", "p", "p0s9:1*1@1", "p0s9:1*1@1ll", "p8s9:1*1@1l", "p0s9:0*1@1l", "p0s9:1*1+0*1@1l",
            "p0s9:1*1+2*1+0*1@1l", "p0s9:1*1+2*1+3*1+0*1@1l", "p0s9:1*1+1*1@1l", "p0s9:1*1+2*1+1*1@1l",
            "p0s9:1*1+2*1+2*1@1l", "p0s9:1*1+2*1+3*1+1*1@1l", "p0s9:1*1+2*1+3*1+2*1@1l", "p0s9:1*1+2*1+3*1+3*1@1l",
            "p0s9:1*10@1l", "p0s9:1*9+2*1@1e", "p0s9:1*3+2*3+3*3+4*1@1e", "p0s9:1*1@1000+1l", "p0s9:1*1@999+2l",
            "p0s9:1*1@500+300+100+50+51e"};
        for (String text : wrong) {
            Check.dueRefused("give() of " + text, IllegalArgumentException.class,
                () -> Check.withText(text, 99, 99, 99, 99, 99), x -> x.give());
        }
    }

    /** Promise 13: IllegalArgumentException ahead of IllegalStateException, for each reason of both. */
    private static void giveOfWrongBondsThatAreTooMuch() {
        String[] wrong = {"", "p0s900:1*900@1", "p0s900:0*900@1l", "p0s900:1*400+1*400@1l", "p0s900:1*900+2*1@1l",
            "p0s1:1*900@1l", "p0s900:1*900@1000+1l"};
        for (String text : wrong) {
            Check.dueRefused("give() of " + text + " without cash", IllegalArgumentException.class,
                () -> Check.withText(text), x -> x.give());
            Check.dueRefused("give() of " + text + " as the eleventh", IllegalArgumentException.class,
                () -> withTenBonds(text), x -> x.give());
        }
    }

    /** Promise 13: the reasons of IllegalStateException, each alone and both. */
    private static void giveOfTooMuch() {
        Check.dueRefused("give() of the eleventh", IllegalStateException.class,
            () -> withTenBonds("p0s9:1*1@1l"), x -> x.give());
        Check.dueRefused("give() of the eleventh, too much too", IllegalStateException.class,
            () -> withTenBonds("p0s900:1*900@1l"), x -> x.give());
        Check.dueRefused("give() of too much", IllegalStateException.class,
            () -> Check.withText("p0s900:1*46@1l", 0, 9), x -> x.give());
        Check.due("give() of just enough", Check.withText("p0s900:1*45@1l", 0, 9).give(), 0);
        Supplier<BondLayers> ended = () -> {
            BondLayers x = withTenBonds("p0s9:1*1@1l");
            x.end(0);
            x.end(9);
            return x;
        };
        Check.dueRefused("give() of the eleventh, some were ended", IllegalStateException.class, ended, x -> x.give());
    }

    private static BondLayers withTenBonds(String text) {
        BondLayers x = Check.withCash(0, 9);
        for (int bond = 0; bond < 10; bond++) {
            Check.give(x, "p0s9:1*1@1+2l");
        }
        Check.write(x, text);
        return x;
    }

    /** Promise 14. */
    private static void undo() {
        Check.dueRefused("undo() of a new object", IllegalStateException.class,
            () -> Check.withText("p0s9"), x -> x.undo());
        Supplier<BondLayers> undone = () -> {
            BondLayers x = busy();
            for (int times = 0; times < 6; times++) {
                x.undo();
            }
            return x;
        };
        Check.dueRefused("undo() of the seventh", IllegalStateException.class, undone, x -> x.undo());
    }

    /** Promises 15 to 20. */
    private static void looks() {
        for (int person : NO_PERSON) {
            index("person(" + person + ", 0)", x -> x.person(person, 0));
            index("person(" + person + ", 11), what too", x -> x.person(person, 11));
            index("debt(" + person + ", 0)", x -> x.debt(person, 0));
            index("debt(0, " + person + ")", x -> x.debt(0, person));
            index("debt(" + person + ", " + person + ")", x -> x.debt(person, person));
        }
        for (int bond : NO_BOND) {
            index("bond(" + bond + ", 0)", x -> x.bond(bond, 0));
            index("bond(" + bond + ", 12), what too", x -> x.bond(bond, 12));
            index("layer(" + bond + ", 0, 0)", x -> x.layer(bond, 0, 0));
            index("layer(" + bond + ", 0, 4), what too", x -> x.layer(bond, 0, 4));
        }
        for (int layer : new int[] {-1, 2, 3, 4, MIN, MAX}) {
            index("layer(0, " + layer + ", 0)", x -> x.layer(0, layer, 0));
            index("layer(0, " + layer + ", 4), what too", x -> x.layer(0, layer, 4));
            index("layer(1, " + layer + ", 0)", x -> x.layer(1, layer, 0));
        }
        index("layer(2, 1, 0)", x -> x.layer(2, 1, 0));
        index("setting(-1)", x -> x.setting(-1));
        index("setting(3)", x -> x.setting(3));
        index("setting(MIN)", x -> x.setting(MIN));
        index("setting(MAX)", x -> x.setting(MAX));
        for (int what : new int[] {-1, 100, MIN, MAX}) {
            argument("person(7, " + what + ")", x -> x.person(7, what));
            argument("bond(2, " + what + ")", x -> x.bond(2, what));
            argument("layer(2, 0, " + what + ")", x -> x.layer(2, 0, what));
            argument("count(" + what + ")", x -> x.count(what));
        }
        argument("person(0, 11)", x -> x.person(0, 11));
        argument("bond(0, 12)", x -> x.bond(0, 12));
        argument("layer(0, 1, 4)", x -> x.layer(0, 1, 4));
        argument("count(10)", x -> x.count(10));
    }

    /** Promises 21 to 24. */
    private static void whatWouldBe() {
        for (int bond : NO_BOND) {
            index("ifCalled(" + bond + ", 1, 0)", x -> x.ifCalled(bond, 1, 0));
            index("ifCalled(" + bond + ", 0, 0), amount too", x -> x.ifCalled(bond, 0, 0));
            index("ifCalled(" + bond + ", 1, 11), what too", x -> x.ifCalled(bond, 1, 11));
            index("thin(" + bond + ")", x -> x.thin(bond));
        }
        for (int bond = 0; bond < 3; bond++) {
            int each = bond;
            for (int amount : NO_AMOUNT) {
                argument("ifCalled(" + bond + ", " + amount + ", 0)", x -> x.ifCalled(each, amount, 0));
            }
            for (int what : new int[] {-1, 11, 12, MIN, MAX}) {
                argument("ifCalled(" + bond + ", 1, " + what + ")", x -> x.ifCalled(each, 1, what));
            }
        }
        for (int person : NO_PERSON) {
            index("spare(" + person + ")", x -> x.spare(person));
        }
    }

    /** "IndexOutOfBoundsException if there is no such bond": no bond is there yet, or none any more. */
    private static void withoutBonds() {
        Supplier<BondLayers> undone = () -> {
            BondLayers x = Check.withBond("p0s9:1*1@1l", 0, 9);
            x.undo();
            return x;
        };
        for (Supplier<BondLayers> made : List.<Supplier<BondLayers>>of(BondLayers::new, undone)) {
            noBond("call(0, 1, 9)", made, x -> x.call(0, 1, 9));
            noBond("call(0, 0, 10)", made, x -> x.call(0, 0, 10));
            noBond("reach(0)", made, x -> x.reach(0));
            noBond("end(0)", made, x -> x.end(0));
            noBond("bond(0, 0)", made, x -> x.bond(0, 0));
            noBond("layer(0, 0, 0)", made, x -> x.layer(0, 0, 0));
            noBond("ifCalled(0, 1, 0)", made, x -> x.ifCalled(0, 1, 0));
            noBond("thin(0)", made, x -> x.thin(0));
            Check.due("worst()", made.get().worst(), BondLayers.NONE);
        }
    }

    private static void noBond(String call, Supplier<BondLayers> made, ToIntFunction<BondLayers> run) {
        Check.dueRefused(call + " without bonds", IndexOutOfBoundsException.class, made, run);
    }
}
