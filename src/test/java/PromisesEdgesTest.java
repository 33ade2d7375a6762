import java.math.BigInteger;
import java.util.ArrayList;
import java.util.List;

/**
 * The edges that promises 1 to 9 and 14 to 26 name, sentence by sentence: the last values that are
 * allowed, what comes back at them, nothing there yet, and the digest that wraps around. What is
 * refused stands in RefusedTest, promises 10 to 13 in TextEdgesTest.
 */
public final class PromisesEdgesTest {
    private PromisesEdgesTest() {
    }

    public static void main(String[] args) {
        newObjects();
        persons();
        bonds();
        undos();
        looks();
        ifCalled();
        thin();
        worst();
        spare();
        paidShare();
        digest();
        Check.end("PromisesEdgesTest");
    }

    /** Promise 1: "Creates persons without cash, without bonds, with an empty buffer", each object anew. */
    private static void newObjects() {
        BondLayers used = Check.withBond("p0s9:1*1@1l", 9, 9);
        used.guarantee(0, 2, 50);
        used.set(0, 0);
        used.call(0, 9, 9);
        Check.write(used, "p0s");
        BondLayers x = new BondLayers();
        for (int what = 0; what <= 9; what++) {
            Check.due("count(" + what + ")", x.count(what), 0);
        }
        for (int person = 0; person < 8; person++) {
            for (int what = 0; what <= 10; what++) {
                Check.due("person(" + person + ", " + what + ")", x.person(person, what), what == 4 ? -1 : 0);
            }
        }
        Check.due("setting(0)", x.setting(0), 5);
        Check.due("clearBuffer()", x.clearBuffer(), 0);
        Check.due("worst()", x.worst(), -1);
        x.bring(3, 1);
        Check.due("the used one has its own persons", used.person(3, 0), 0);
    }

    private static void persons() {
        bring();
        takeOut();
        takeOutAllOrWhatIsNotKept();
        guarantee();
        repayOwed();
        repayCash();
        set();
    }

    /** Promise 2: "amount: 1 to 99999"; "Returns the cash then". */
    private static void bring() {
        for (int person = 0; person < 8; person++) {
            BondLayers x = new BondLayers();
            Check.due("bring(" + person + ", 1)", x.bring(person, 1), 1);
            Check.due("bring(" + person + ", 99999)", x.bring(person, 99999), 100000);
            Check.due("bring(" + person + ", 99998)", x.bring(person, 99998), 199998);
            Check.due("count(2)", x.count(2), 199998);
            Check.due("count(3)", x.count(3), 199998);
        }
    }

    /** Promise 3: "amount: 1 to 99999"; "Returns the cash then". */
    private static void takeOut() {
        for (int person = 0; person < 8; person++) {
            BondLayers x = new BondLayers();
            x.bring(person, 99999);
            x.bring(person, 2);
            Check.due("takeOut(" + person + ", 99999)", x.takeOut(person, 99999), 2);
            Check.due("takeOut(" + person + ", 1)", x.takeOut(person, 1), 1);
            Check.due("takeOut(" + person + ", 1)", x.takeOut(person, 1), 0);
            Check.due("count(3)", x.count(3), 0);
            int each = person;
            Check.dueState("takeOut(" + person + ", 1) without cash", x, () -> x.takeOut(each, 1));
        }
    }

    /** Promise 3: "the cash is less, or would be less than what the person is bound for times setting 1". */
    private static void takeOutAllOrWhatIsNotKept() {
        BondLayers x = Check.withCash(0, 50);
        Check.dueState("takeOut(1, 51) of 50", x, () -> x.takeOut(1, 51));
        Check.due("takeOut(1, 50) of 50", x.takeOut(1, 50), 0);
        // bound for 40 and 60 in two bonds, 20 percent: 20 are kept
        BondLayers y = Check.withBond("p0s99:1*40@1l", 0, 50);
        Check.give(y, "p2s99:1*60@1e");
        Check.dueState("takeOut(1, 31), 20 are to be kept", y, () -> y.takeOut(1, 31));
        Check.due("takeOut(1, 29)", y.takeOut(1, 29), 21);
        Check.due("takeOut(1, 1), 20 are kept", y.takeOut(1, 1), 20);
        Check.dueState("takeOut(1, 1) more", y, () -> y.takeOut(1, 1));
        y.end(1);
        // bound for 40: 8 are kept
        Check.dueState("takeOut(1, 13), 8 are to be kept", y, () -> y.takeOut(1, 13));
        Check.due("takeOut(1, 12)", y.takeOut(1, 12), 8);
        y.set(1, 21);
        Check.dueState("takeOut(1, 1), as much as is to be kept", y, () -> y.takeOut(1, 1));
        y.set(1, 23);
        Check.dueState("takeOut(1, 1), less than is to be kept", y, () -> y.takeOut(1, 1));
        y.end(0);
        Check.due("takeOut(1, 8), not bound any more", y.takeOut(1, 8), 0);
    }

    /** Promise 4: "percent: 1 to 100 (of no matter for NONE)"; "the previous .., NONE if there was none". */
    private static void guarantee() {
        for (int person = 0; person < 8; person++) {
            int guarantor = 7 - person;
            BondLayers x = new BondLayers();
            Check.due("guarantee(" + person + ", .., 1)", x.guarantee(person, guarantor, 1), -1);
            Check.due("person(" + person + ", 5)", x.person(person, 5), 1);
            Check.due("guarantee(" + person + ", .., 100)", x.guarantee(person, guarantor, 100), guarantor);
            Check.due("person(" + person + ", 5)", x.person(person, 5), 100);
            Check.due("person(" + person + ", 4)", x.person(person, 4), guarantor);
        }
        for (int percent : new int[] {0, 1, 100, 101, -1, Integer.MIN_VALUE, Integer.MAX_VALUE}) {
            BondLayers x = new BondLayers();
            Check.due("guarantee(1, NONE, " + percent + ")", x.guarantee(1, BondLayers.NONE, percent), -1);
            x.guarantee(1, 0, 50);
            Check.due("guarantee(1, NONE, " + percent + ")", x.guarantee(1, BondLayers.NONE, percent), 0);
            Check.due("person(1, 4)", x.person(1, 4), -1);
            Check.due("person(1, 5), 0 without one", x.person(1, 5), 0);
            Check.due("person(1, 6)", x.person(1, 6), 0);
            Check.due("count(9)", x.count(9), 3);
        }
        // without a counter-guarantor nobody makes good, whatever the percentage was
        BondLayers x = Check.withBond("p0s99:1*9@1l", 0, 9, 9);
        x.guarantee(0, 2, 100);
        x.guarantee(0, BondLayers.NONE, 100);
        x.call(0, 9, 9);
        Check.dueDebts("none any more", x, 0, 0, 9, 0);
    }

    /** Promise 5: IllegalStateException if "less is owed"; "Returns what is owed then". */
    private static void repayOwed() {
        BondLayers x = Check.withBond("p0s99:1*9@1l", 0, 9);
        x.call(0, 9, 9);
        x.bring(0, 99);
        Check.dueState("repay(0, 1, 10) of 9", x, () -> x.repay(0, 1, 10));
        Check.due("repay(0, 1, 8)", x.repay(0, 1, 8), 1);
        Check.dueState("repay(0, 1, 2) of 1", x, () -> x.repay(0, 1, 2));
        Check.due("repay(0, 1, 1)", x.repay(0, 1, 1), 0);
        Check.dueState("repay(0, 1, 1) of nothing", x, () -> x.repay(0, 1, 1));
        Check.dueCash("repaid", x, 90, 9);
        Check.due("count(7)", x.count(7), 0);
        Check.due("count(3), brought in alone", x.count(3), 108);
        BondLayers y = Check.withBond("p0s99999:1*99999@1l", 0, 99999);
        y.call(0, 99999, 9);
        y.bring(0, 99999);
        Check.due("repay(0, 1, 99999)", y.repay(0, 1, 99999), 0);
    }

    /** Promise 5: IllegalStateException if "the cash is less". */
    private static void repayCash() {
        BondLayers x = Check.withBond("p0s99:1*9@1l", 0, 9);
        x.call(0, 9, 9);
        Check.dueState("repay(0, 1, 1) without cash", x, () -> x.repay(0, 1, 1));
        x.bring(0, 5);
        Check.dueState("repay(0, 1, 6) with cash 5", x, () -> x.repay(0, 1, 6));
        Check.due("repay(0, 1, 5) with cash 5", x.repay(0, 1, 5), 4);
        Check.dueCash("repaid", x, 0, 5);
        // what a person is bound for is not kept for a debt
        BondLayers y = Check.withBond("p0s99:1*9@1l", 0, 9, 9);
        y.call(0, 9, 9);
        y.bring(0, 4);
        Check.give(y, "p2s99:0*20@1l");
        Check.due("spare(0)", y.spare(0), 0);
        Check.due("repay(0, 1, 4), all of it", y.repay(0, 1, 4), 5);
    }

    /** Promise 6: "Returns the previous value", for each value that there is. */
    private static void set() {
        int[] least = {0, 0, 1};
        int[] most = {9, 100, 9};
        for (int setting = 0; setting < 3; setting++) {
            BondLayers x = new BondLayers();
            int previous = x.setting(setting);
            for (int value = least[setting]; value <= most[setting]; value++) {
                Check.due("set(" + setting + ", " + value + ")", x.set(setting, value), previous);
                Check.due("setting(" + setting + ")", x.setting(setting), value);
                previous = value;
            }
        }
    }

    private static void bonds() {
        call();
        reach();
        end();
    }

    /** Promise 7: "amount: 1 to 99999"; "proof: 0 to 9"; "Returns what is paid". */
    private static void call() {
        for (int amount : new int[] {1, 99999}) {
            for (int proof : new int[] {0, 9}) {
                BondLayers x = Check.withBond("p0s99999:1*1@1l", 99999, 9);
                x.set(0, 0);
                Check.due("call(0, " + amount + ", " + proof + ")", x.call(0, amount, proof), amount);
            }
        }
        BondLayers x = Check.withBond("p0s99:1*5+2*5@1e", 3, 5, 4);
        Check.due("all pay", x.call(0, 5, 9), 5);
        // 8 of 10 are shared as 4 and 4, with cash 4 and 3
        Check.due("a loss of 3", x.call(0, 10, 9), 7);
        Check.due("nobody has cash", x.call(0, 10, 9), 0);
        x.bring(1, 9);
        Check.due("the one with cash has no limit", x.call(0, 10, 9), 0);
        x.bring(2, 9);
        Check.due("a limit of 1 is left", x.call(0, 10, 9), 1);
        Check.due("no limit is left", x.call(0, 10, 9), 0);
    }

    /** Promise 8: "if .. all of its milestones were reached": of a bond of one to five. */
    private static void reach() {
        for (int milestones = 1; milestones <= 5; milestones++) {
            BondLayers x = Check.withBond("p0s1000:1*1@" + "1+".repeat(milestones - 1) + "1l", 0, 9);
            for (int reached = 0; reached < milestones; reached++) {
                Check.due("bond(0, 5)", x.bond(0, 5), reached);
                Check.due("reach(0) of " + milestones, x.reach(0), 1);
            }
            Check.dueState("reach(0) of one more than " + milestones, x, () -> x.reach(0));
            Check.due("bond(0, 5)", x.bond(0, 5), milestones);
            x.undo();
            Check.due("reach(0), the last one was undone", x.reach(0), 1);
        }
    }

    /** Promise 9: "Returns what is released by it": all, some, and nothing. */
    private static void end() {
        int[][] calls = {{0, 100}, {1, 99}, {99, 1}, {100, 0}};
        for (int[] each : calls) {
            BondLayers x = Check.withBond("p0s100:1*1@1000l", 100, 9);
            if (each[0] > 0) {
                x.call(0, each[0], 9);
            }
            Check.due("end(0) after a call of " + each[0], x.end(0), each[1]);
            Check.due("count(8)", x.count(8), each[1]);
            Check.dueState("end(0) again", x, () -> x.end(0));
            Check.dueState("reach(0) of an ended one", x, () -> x.reach(0));
            Check.dueState("call(0, 1, 9) of an ended one", x, () -> x.call(0, 1, 9));
        }
        BondLayers x = Check.withBond("p0s100:1*1@1000l", 100, 9);
        x.reach(0);
        Check.due("end(0), all was released", x.end(0), 0);
        Check.due("count(8)", x.count(8), 100);
    }

    /** Promise 14: "Restores the latest saved state, and drops it"; "how many saved states are left". */
    private static void undos() {
        BondLayers x = new BondLayers();
        Check.dueState("undo() of a new object", x, x::undo);
        x.bring(0, 1);
        Check.due("undo() of the only one", x.undo(), 0);
        Check.due("person(0, 0)", x.person(0, 0), 0);
        Check.dueState("undo() again", x, x::undo);
        for (int times = 0; times < 6; times++) {
            x.bring(0, 1);
        }
        Check.due("undo() of the sixth", x.undo(), 5);
        x.bring(0, 10);
        Check.due("person(0, 0)", x.person(0, 0), 15);
        x.bring(0, 100);
        Check.due("count(9)", x.count(9), 6);
        int[] cash = {15, 5, 4, 3, 2, 1};
        for (int times = 0; times < 6; times++) {
            Check.due("undo()", x.undo(), 5 - times);
            Check.due("person(0, 0)", x.person(0, 0), cash[times]);
        }
        Check.dueState("undo(), the oldest was dropped", x, x::undo);
    }

    private static void looks() {
        chainOfNobody();
        runningOfThePrincipal();
        countsOfNothing();
        debtsToOneself();
        lastOfEach();
        neighbours();
        lastPersonsOwe();
        settings();
    }

    /** Promise 20: "setting: 0 to 2"; "Returns its value", at first, when it was set, and when that was undone. */
    private static void settings() {
        BondLayers x = new BondLayers();
        int[] first = {5, 20, 5};
        int[] then = {0, 100, 1};
        for (int setting = 0; setting < 3; setting++) {
            Check.due("setting(" + setting + ")", x.setting(setting), first[setting]);
            x.set(setting, then[setting]);
        }
        for (int setting = 2; setting >= 0; setting--) {
            Check.due("setting(" + setting + "), set", x.setting(setting), then[setting]);
            x.undo();
            Check.due("setting(" + setting + "), undone", x.setting(setting), first[setting]);
        }
        Check.dueIndex("setting(-1)", x, () -> x.setting(-1));
        Check.dueIndex("setting(3)", x, () -> x.setting(3));
    }

    /** Promise 15: "4: the counter-guarantor, NONE without one; 5: .. 0 without one; 6: the length of the chain". */
    private static void chainOfNobody() {
        BondLayers x = new BondLayers();
        x.guarantee(1, 0, 100);
        for (int person = 0; person < 8; person++) {
            Check.due("person(" + person + ", 4)", x.person(person, 4), person == 1 ? 0 : -1);
            Check.due("person(" + person + ", 5)", x.person(person, 5), person == 1 ? 100 : 0);
            Check.due("person(" + person + ", 6)", x.person(person, 6), person == 1 ? 1 : 0);
        }
    }

    /** Promise 15: "10: bonds that run of which the person is the principal". */
    private static void runningOfThePrincipal() {
        BondLayers x = Check.withCash(9, 99, 99);
        Check.due("none", x.person(0, 10), 0);
        for (int bond = 0; bond < 9; bond++) {
            Check.give(x, "p0s9:1*1@1l");
            Check.due("person(0, 10)", x.person(0, 10), bond + 1);
        }
        Check.give(x, "p1s9:2*1@1l");
        Check.due("person(0, 10)", x.person(0, 10), 9);
        Check.due("person(1, 10)", x.person(1, 10), 1);
        Check.due("person(2, 10), a surety", x.person(2, 10), 0);
        for (int bond = 0; bond < 9; bond++) {
            x.end(bond);
            Check.due("person(0, 10)", x.person(0, 10), 8 - bond);
            Check.due("count(1)", x.count(1), 9 - bond);
        }
        Check.due("count(0)", x.count(0), 10);
        Check.due("person(1, 10)", x.person(1, 10), 1);
    }

    /** Promise 19: each number when there is nothing of it, and with one bond of which nothing was called. */
    private static void countsOfNothing() {
        BondLayers x = new BondLayers();
        for (int what = 0; what <= 9; what++) {
            Check.due("count(" + what + ") of nothing", x.count(what), 0);
        }
        BondLayers y = Check.withBond("p0s9:1*1@1l", 0, 7);
        int[] want = {1, 1, 7, 7, 0, 0, 0, 0, 0, 2};
        for (int what = 0; what <= 9; what++) {
            Check.due("count(" + what + ") of one bond", y.count(what), want[what]);
        }
        // what was paid for calls is no more there, but was brought in
        y.call(0, 3, 9);
        y.end(0);
        int[] then = {1, 0, 6, 7, 3, 1, 2, 1, 6, 4};
        for (int what = 0; what <= 9; what++) {
            Check.due("count(" + what + ") of an ended bond", y.count(what), then[what]);
        }
    }

    /** Promise 18: "Returns the debt (0 for the same one)". */
    private static void debtsToOneself() {
        BondLayers x = Check.withBond("p0s9:1*5@1l", 0, 9);
        x.call(0, 5, 9);
        for (int person = 0; person < 8; person++) {
            for (int other = 0; other < 8; other++) {
                int want = person == 0 && other == 1 ? 5 : 0;
                Check.due("debt(" + person + ", " + other + ")", x.debt(person, other), want);
            }
        }
    }

    /** Promises 16, 17: the first and the last bond of ten, the first and the last layer of four. */
    private static void lastOfEach() {
        BondLayers x = Check.withCash(0, 99, 99, 99, 99);
        for (int bond = 0; bond < 10; bond++) {
            Check.give(x, "p" + (bond < 5 ? 0 : 5) + "s9" + bond + ":1*2+2*3+3*4+4*5@1+2+3+4+5" + (bond < 5 ? "l" : "e"));
        }
        for (int bond = 0; bond < 10; bond += 9) {
            int[] want = {bond < 5 ? 0 : 5, 90 + bond, bond < 5 ? 0 : 1, 4, 5, 0, 0, 0, 0, 90 + bond, 14, 1};
            for (int what = 0; what <= 11; what++) {
                Check.due("bond(" + bond + ", " + what + ")", x.bond(bond, what), want[what]);
            }
            for (int layer = 0; layer < 4; layer++) {
                Check.due("layer(" + bond + ", " + layer + ", 0)", x.layer(bond, layer, 0), layer + 1);
                Check.due("layer(" + bond + ", " + layer + ", 1)", x.layer(bond, layer, 1), layer + 2);
                Check.due("layer(" + bond + ", " + layer + ", 2)", x.layer(bond, layer, 2), layer + 2);
                Check.due("layer(" + bond + ", " + layer + ", 3)", x.layer(bond, layer, 3), 0);
            }
        }
        int[] bound = {0, 20, 30, 40, 50, 0, 0, 0};
        for (int person = 0; person < 8; person++) {
            Check.due("person(" + person + ", 3)", x.person(person, 3), bound[person]);
        }
    }

    /** Promises 7, 8, 16, 17: what is done to a bond of four layers and five milestones is done to it alone. */
    private static void neighbours() {
        String text = "s100:1*10+2*20+3*30+4*40@100+1+1+1+1e";
        for (int bond = 0; bond < 10; bond++) {
            BondLayers x = Check.withCash(0, 99, 99, 99, 99);
            x.set(2, 9);
            for (int each = 0; each < 10; each++) {
                Check.give(x, "p" + (5 + each % 3) + text);
            }
            Check.due("reach(" + bond + ")", x.reach(bond), 10);
            Check.due("call(" + bond + ", 9, 9)", x.call(bond, 9, 9), 9);
            for (int each = 0; each < 10; each++) {
                Check.due("bond(" + each + ", 0)", x.bond(each, 0), 5 + each % 3);
                Check.due("bond(" + each + ", 2)", x.bond(each, 2), 1);
                Check.due("bond(" + each + ", 9)", x.bond(each, 9), each == bond ? 81 : 100);
                Check.due("bond(" + each + ", 10)", x.bond(each, 10), each == bond ? 81 : 100);
                // 10, 20, 30 and 30 share 9: 1, 2, 3 and 3
                int[] left = each == bond ? new int[] {9, 18, 27, 27} : new int[] {10, 20, 30, 40};
                Check.dueLeft("bond " + each + " of ten, " + bond + " was called", x, each, left);
            }
            Check.due("worst(), each of them is paid wholly", x.worst(), -1);
        }
    }

    /** Promises 19, 23: the last persons owe to all others, and no bond is any worse for it. */
    private static void lastPersonsOwe() {
        BondLayers x = Check.withCash(9, 9, 9, 9, 9, 9, 9, 9);
        Check.give(x, "p7s99:3*9+4*9+5*9+6*9@1l");
        Check.give(x, "p7s99:0*9+1*9+2*9@1l");
        Check.give(x, "p6s99:7*9@1l");
        x.call(0, 45, 9);
        x.call(1, 27, 9);
        Check.dueDebts("person 7", x, 7, 9, 9, 9, 9, 9, 9, 9, 0);
        Check.due("person(7, 1)", x.person(7, 1), 63);
        Check.due("count(7)", x.count(7), 63);
        Check.due("count(1)", x.count(1), 3);
        // 54, 72 and 99 are left, and nobody has cash
        Check.due("worst()", x.worst(), 2);
        x.end(2);
        Check.due("worst()", x.worst(), 1);
        x.end(1);
        x.end(0);
        Check.due("worst()", x.worst(), -1);
        for (int person = 0; person < 8; person++) {
            Check.due("person(" + person + ", 3)", x.person(person, 3), 0);
            Check.due("person(" + person + ", 10)", x.person(person, 10), 0);
        }
    }

    private static void dueEffects(String call, BondLayers x, int bond, int amount, int... want) {
        for (int what = 0; what <= 10; what++) {
            Check.due(call + ": ifCalled(" + bond + ", " + amount + ", " + what + ")",
                x.ifCalled(bond, amount, what), want[what]);
        }
    }

    private static void ifCalled() {
        ifCalledForLeastAndMost();
        ifCalledWhateverItsProof();
        ifCalledOfNothing();
        ifCalledChangesNothing();
        ifCalledIsWhatACallDoes();
    }

    /** Promise 21: "amount: 1 to 99999"; "what: 0 to 10". */
    private static void ifCalledForLeastAndMost() {
        BondLayers x = Check.withBond("p0s100:7*10@1l", 5, 0, 0, 0, 0, 0, 0, 6);
        dueEffects("the least", x, 0, 1, 1, 0, -1, 0, 0, 0, 0, 0, 0, 0, 10);
        dueEffects("all the principal's cash", x, 0, 5, 5, 0, -5, 0, 0, 0, 0, 0, 0, 0, 10);
        dueEffects("1 more", x, 0, 6, 6, 0, -5, 0, 0, 0, 0, 0, 0, -1, 9);
        dueEffects("all cash", x, 0, 11, 11, 0, -5, 0, 0, 0, 0, 0, 0, -6, 4);
        dueEffects("a loss of 1", x, 0, 12, 11, 1, -5, 0, 0, 0, 0, 0, 0, -6, 4);
        dueEffects("just not trimmed", x, 0, 96, 11, 85, -5, 0, 0, 0, 0, 0, 0, -6, 4);
        dueEffects("trimmed by 1", x, 0, 97, 11, 86, -5, 0, 0, 0, 0, 0, 0, -6, 3);
        dueEffects("all that is left", x, 0, 100, 11, 89, -5, 0, 0, 0, 0, 0, 0, -6, 0);
        dueEffects("the most", x, 0, 99999, 11, 89, -5, 0, 0, 0, 0, 0, 0, -6, 0);
    }

    /** Promise 21: "Tells what a call would do (whatever its proof)". */
    private static void ifCalledWhateverItsProof() {
        for (int least = 0; least <= 9; least++) {
            BondLayers x = Check.withBond("p0s100:1*10@1l", 5, 6);
            x.set(0, least);
            dueEffects("least proof " + least, x, 0, 7, 7, 0, -5, -2, 0, 0, 0, 0, 0, 0, 8);
        }
    }

    /** Promise 21: "for a bond that does not run 0 for all"; one of which nothing is left does run. */
    private static void ifCalledOfNothing() {
        BondLayers x = Check.withBond("p0s100:1*10+2*20@1000l", 5, 6, 7);
        x.guarantee(0, 3, 50);
        x.reach(0);
        dueEffects("nothing is left", x, 0, 50, 0, 0, 0, 0, 0, 0, 0, 0, 0, 0, 0);
        x.end(0);
        dueEffects("ended", x, 0, 50, 0, 0, 0, 0, 0, 0, 0, 0, 0, 0, 0);
        BondLayers y = Check.withBond("p0s100:1*10+2*20@1000l", 5, 6, 7);
        y.call(0, 1, 9);
        y.end(0);
        dueEffects("ended with much left", y, 0, 50, 0, 0, 0, 0, 0, 0, 0, 0, 0, 0, 0);
        // without any limit left the principal pays all the same
        BondLayers z = Check.withBond("p0s100:1*6@1e", 0, 6);
        z.call(0, 6, 9);
        z.bring(0, 9);
        dueEffects("no limit is left", z, 0, 50, 9, 41, -9, 0, 0, 0, 0, 0, 0, 0, 0);
    }

    /** "what would be; nothing is changed": promises 21 to 26. */
    private static void ifCalledChangesNothing() {
        BondLayers x = chained();
        long before = x.digest();
        for (int what = 0; what <= 10; what++) {
            x.ifCalled(0, 99999, what);
        }
        x.thin(0);
        x.worst();
        x.spare(0);
        x.paidShare();
        Check.due("digest()", x.digest(), before);
        Check.dueLeft("nothing is changed", x, 0, 30, 40);
        // nor is anything of it kept for a later call
        BondLayers unasked = chained();
        x.call(0, 50, 9);
        unasked.call(0, 50, 9);
        Check.due("digest() after a call", x.digest(), unasked.digest());
        Check.due("person(2, 9)", x.person(2, 9), unasked.person(2, 9));
        Check.due("undo()", x.undo(), 5);
        Check.due("digest() after its undo", x.digest(), before);
    }

    /** Promise 21: "by how much the cash of the person 0 to 7 would change": by each amount as the call does it. */
    private static void ifCalledIsWhatACallDoes() {
        for (int amount = 1; amount <= 101; amount++) {
            BondLayers x = chained();
            BondLayers called = chained();
            String call = "call(0, " + amount + ", 9)";
            Check.due(call, called.call(0, amount, 9), x.ifCalled(0, amount, 0));
            Check.due(call + ", count(6)", called.count(6), x.ifCalled(0, amount, 1));
            for (int person = 0; person < 8; person++) {
                int change = called.person(person, 0) - x.person(person, 0);
                Check.due(call + ", person " + person, change, x.ifCalled(0, amount, person + 2));
            }
            Check.due(call + ", bond(0, 10)", called.bond(0, 10), x.ifCalled(0, amount, 10));
        }
    }

    private static BondLayers chained() {
        BondLayers x = Check.withBond("p0s100:1*30+2*40@1e", 10, 20, 30);
        x.guarantee(0, 2, 60);
        return x;
    }

    private static void thin() {
        thinOneByOne();
        thinByShares();
        thinOfNothing();
    }

    /** Promise 22: "would pay less than it should, as its cash would not allow it", by the way 0. */
    private static void thinOneByOne() {
        int[] limits = {10, 20, 30, 40};
        for (int layer = 0; layer < 4; layer++) {
            BondLayers enough = Check.withBond("p0s100:1*10+2*20+3*30+4*40@1l", 0, 10, 20, 30, 40);
            Check.due("thin(0), all have as much as their limits", enough.thin(0), -1);
            enough.takeOut(layer + 1, 1);
            Check.due("thin(0), 1 is missing in the layer " + layer, enough.thin(0), layer);
            for (int behind = layer + 1; behind < 4; behind++) {
                enough.takeOut(behind + 1, 1);
                Check.due("thin(0), the lowest", enough.thin(0), layer);
            }
            Check.due("cash", enough.person(layer + 1, 0), limits[layer] - 1);
        }
        // "what is not paid yet, but at most what is left of its limit"
        BondLayers x = Check.withBond("p0s25:1*10+2*10@1l", 10, 10, 4);
        Check.due("thin(0), 5 are not paid yet", x.thin(0), 1);
        x.bring(0, 1);
        Check.due("thin(0), 4 are not paid yet", x.thin(0), -1);
        BondLayers y = Check.withBond("p0s99:1*10@1l", 0, 9);
        Check.due("thin(0), cash 9 of 10", y.thin(0), 0);
        y.call(0, 1, 9);
        Check.due("thin(0), cash 8 of 9", y.thin(0), 0);
        y.bring(1, 1);
        Check.due("thin(0), cash 9 of 9", y.thin(0), -1);
    }

    /** Promise 22: "by the way 1 its share". */
    private static void thinByShares() {
        // 50 are shared as 17, 17 and 16: the two that remain by rounding come to the first two
        int[][] cash = {{17, 17, 16, -1}, {16, 17, 16, 0}, {17, 16, 16, 1}, {17, 17, 15, 2}, {16, 16, 15, 0},
            {17, 16, 15, 1}};
        for (int[] each : cash) {
            BondLayers x = Check.withBond("p0s50:1*16+2*16+3*16@1e", 0, each[0], each[1], each[2]);
            Check.due("thin(0), 48 of 50 are shared as 16 each", x.thin(0), each[2] < 16 ? 2 : -1);
            BondLayers y = Check.withBond("p0s90:1*30+2*30+3*30@1e", 40, each[0], each[1], each[2]);
            Check.due("thin(0), 50 of 90 are shared", y.thin(0), each[3]);
        }
        // a share of a limit that was trimmed
        BondLayers x = Check.withBond("p0s20:1*10+2*10@500e", 0, 10, 2);
        Check.due("thin(0), 10 and 10", x.thin(0), 1);
        x.reach(0);
        Check.due("thin(0), 10 and 0", x.thin(0), -1);
    }

    /** Promise 22: "NONE if there is none, or the bond does not run". */
    private static void thinOfNothing() {
        for (String way : new String[] {"l", "e"}) {
            BondLayers x = Check.withBond("p0s100:1*10@1000" + way, 0, 9);
            Check.due("thin(0)", x.thin(0), 0);
            x.reach(0);
            Check.due("thin(0), nothing is left", x.thin(0), -1);
            x.undo();
            Check.due("thin(0), undone", x.thin(0), 0);
            x.end(0);
            Check.due("thin(0), ended", x.thin(0), -1);
            BondLayers y = Check.withBond("p0s100:1*9@1" + way, 0, 9);
            y.call(0, 9, 9);
            Check.due("thin(0), no limit and no cash is left", y.thin(0), -1);
            BondLayers z = Check.withBond("p0s100:1*10@1" + way, 99, 5);
            Check.due("thin(0), the principal pays all but 1", z.thin(0), -1);
            z.takeOut(0, 5);
            Check.due("thin(0), cash 5 of 6", z.thin(0), 0);
        }
    }

    private static void worst() {
        worstOfLosses();
        worstOfNone();
    }

    /** Promise 23: "the loss by a call for all that is left would be greatest, of several the lowest number". */
    private static void worstOfLosses() {
        for (int worst = 0; worst < 10; worst++) {
            BondLayers x = Check.withCash(0, 9);
            for (int bond = 0; bond < 10; bond++) {
                Check.give(x, "p0s" + (bond == worst ? 11 : 10) + ":1*1@1l");
            }
            Check.due("worst()", x.worst(), worst);
            x.end(worst);
            Check.due("worst() of all alike", x.worst(), worst == 0 ? 1 : 0);
        }
        // each call is for itself: the cash of person 1 is there for either
        BondLayers x = Check.withBond("p0s10:1*9@1l", 0, 9);
        Check.give(x, "p0s10:1*8@1e");
        Check.due("worst() of 1 and 2", x.worst(), 1);
        Check.give(x, "p0s10:1*8@1l");
        Check.due("worst() of 1, 2 and 2", x.worst(), 1);
    }

    /** Promise 23: "NONE if none would bring a loss". */
    private static void worstOfNone() {
        BondLayers x = new BondLayers();
        Check.due("worst() without bonds", x.worst(), -1);
        BondLayers y = Check.withBond("p0s10:1*9@1000l", 0, 9);
        Check.due("worst() of a loss of 1", y.worst(), 0);
        y.bring(0, 1);
        Check.due("worst() of none", y.worst(), -1);
        y.undo();
        Check.due("worst() of a loss of 1", y.worst(), 0);
        y.reach(0);
        Check.due("worst(), nothing is left", y.worst(), -1);
        y.undo();
        y.end(0);
        Check.due("worst(), none runs", y.worst(), -1);
    }

    /** Promise 24: "whatever the range of its amount; 0 if there is none". */
    private static void spare() {
        BondLayers x = new BondLayers();
        Check.due("spare(0) without cash", x.spare(0), 0);
        x.bring(0, 1);
        Check.due("spare(0) with cash 1", x.spare(0), 1);
        for (int times = 0; times < 3; times++) {
            x.bring(7, 99999);
        }
        Check.due("spare(7), more than an amount can be", x.spare(7), 299997);
        for (int cash = 18; cash <= 22; cash++) {
            // bound for 100, so that 20 are kept
            BondLayers y = Check.withBond("p0s100:1*100@1l", 0, 22);
            y.set(1, 0);
            if (cash < 22) {
                y.takeOut(1, 22 - cash);
            }
            y.set(1, 20);
            Check.due("spare(1) with cash " + cash, y.spare(1), Math.max(0, cash - 20));
            int more = y.spare(1) + 1;
            Check.dueState("takeOut(1, " + more + ")", y, () -> y.takeOut(1, more));
            if (cash > 20) {
                Check.due("takeOut(1, spare)", y.takeOut(1, cash - 20), 20);
            }
        }
    }

    /** Promise 25: "count(5), as a double, divided by count(4); 1.0 if that is 0". */
    private static void paidShare() {
        BondLayers x = Check.withBond("p0s9:1*1@1000l", 0, 1);
        Check.dueDouble("paidShare(), nothing was called", x.paidShare(), 1.0);
        x.reach(0);
        x.call(0, 5, 9);
        Check.dueDouble("paidShare(), a call of nothing", x.paidShare(), 1.0);
        Check.dueDouble("paidShare() of a new object", new BondLayers().paidShare(), 1.0);
        for (int paid = 0; paid <= 9; paid++) {
            BondLayers y = Check.withBond("p0s9:1*1@1l", paid, 1);
            y.set(1, 0);
            y.takeOut(1, 1);
            y.call(0, 9, 9);
            Check.dueDouble("paidShare(), " + paid + " of 9", y.paidShare(), paid / 9.0);
            y.end(0);
            Check.dueDouble("paidShare(), ended", y.paidShare(), paid / 9.0);
        }
    }

    private static void digest() {
        digestOfANewObject();
        digestOfABond();
        digestOfEachCharacter();
    }

    /** Promise 26: "The hash starts at 2503"; "31 * hash + v, in long arithmetic with overflow". */
    private static long hash(List<Long> values) {
        BigInteger hash = BigInteger.valueOf(2503);
        for (long value : values) {
            hash = hash.multiply(BigInteger.valueOf(31)).add(BigInteger.valueOf(value));
        }
        return hash.longValue();
    }

    private static void add(List<Long> values, long... more) {
        for (long each : more) {
            values.add(each);
        }
    }

    /** Promise 26, nothing there yet: the values are written out, not asked of the object. */
    private static void digestOfANewObject() {
        List<Long> values = new ArrayList<>();
        add(values, 0, 0, 0, 0, 0, 0, 0, 0, 0, 0, 5, 20, 5);
        for (int person = 0; person < 8; person++) {
            add(values, 0, 0, 0, 0, -1, 0, 0, 0, 0, 0, 0, 0, 0, 0, 0, 0, 0, 0, 0, 0);
        }
        add(values, -1, 0x3FF0000000000000L, 0);
        Check.due("digest() of a new object", new BondLayers().digest(), hash(values));
    }

    /** Promise 26: every value of it, written out for one bond after a call with a loss and a text of two signs. */
    private static void digestOfABond() {
        BondLayers x = Check.withBond("p0s2000:1*8+2*4@1+2e", 2, 9, 3);
        x.guarantee(0, 3, 50);
        x.bring(3, 2);
        x.call(0, 8, 7);
        x.set(1, 30);
        Check.write(x, "p!");
        // 2 by the principal; 6 shared as 4 and 2; 2 of the 4 and 0 of the 2 (no cash) are made good
        List<Long> values = new ArrayList<>();
        add(values, 1, 1, 8, 16, 8, 8, 0, 6, 0, 6, 5, 30, 5);
        add(values, 0, 6, 0, 0, 3, 50, 1, 2, 0, 0, 1, 0, 0, 2, 2, 2, 0, 0, 0, 0);
        add(values, 7, 0, 2, 4, -1, 0, 0, 0, 4, 0, 0, 6, 0, 0, 0, 0, 0, 0, 0, 0);
        add(values, 1, 0, 2, 2, -1, 0, 0, 0, 2, 0, 0, 1, 0, 0, 0, 0, 0, 0, 0, 0);
        add(values, 0, 0, 2, 0, -1, 0, 0, 0, 0, 2, 0, 0, 0, 0, 0, 0, 0, 0, 0, 0);
        for (int person = 4; person < 8; person++) {
            add(values, 0, 0, 0, 0, -1, 0, 0, 0, 0, 0, 0, 0, 0, 0, 0, 0, 0, 0, 0, 0);
        }
        add(values, 0, 2000, 1, 2, 2, 0, 8, 8, 0, 1992, 6, 1);
        add(values, 1, 8, 4, 4, 2, 4, 2, 2);
        // a call for 1000: shares of 4 and 2, of which 4 and 1 are paid; nobody makes good
        add(values, 5, 995, 0, -4, -1, 0, 0, 0, 0, 0, 1, 1);
        add(values, 0, Double.doubleToLongBits(1.0), 2, 'p', '!');
        Check.due("digest() of a bond", x.digest(), hash(values));
        x.undo();
        x.takeOut(1, 5);
        // nothing paid of 5, by the bits of 0.0
        BondLayers y = Check.withBond("p0s9:1*1@1l", 0, 1);
        y.set(1, 0);
        y.takeOut(1, 1);
        y.call(0, 5, 9);
        Check.dueDouble("paidShare() of nothing", y.paidShare(), 0.0);
        Check.due("digest() of nothing paid", y.digest(), WouldBeTest.digestByLooks(y, ""));
        x.call(0, 992, 9);
        // 1000 were called, 2 + 6 were paid, then 2 of 4 and 1 of 2
        Check.dueDouble("paidShare()", x.paidShare(), 11.0 / 1000);
        Check.due("digest() with a share", x.digest(), WouldBeTest.digestByLooks(x, "p!"));
    }

    /** Promise 26: "the length of the buffer and each of its character codes": an empty and a full one. */
    private static void digestOfEachCharacter() {
        for (int length = 0; length <= 60; length++) {
            StringBuilder text = new StringBuilder();
            for (int index = 0; index < length; index++) {
                text.append((char) (index % 2 == 0 ? 33 + index : 126 - index));
            }
            BondLayers x = Check.withText(text.toString(), 1, 2, 3);
            Check.due("digest() of " + length, x.digest(), WouldBeTest.digestByLooks(x, text.toString()));
        }
    }
}
