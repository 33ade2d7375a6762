/** Promises 1 to 6: a new object, bring, takeOut, guarantee, repay, set. */
public final class PersonsTest {
    private PersonsTest() {
    }

    public static void main(String[] args) {
        newObject();
        bring();
        takeOut();
        takeOutKeepsWhatIsBound();
        guarantee();
        guaranteeThrows();
        repay();
        set();
        Check.end("PersonsTest");
    }

    private static void newObject() {
        BondLayers x = new BondLayers();
        for (int person = 0; person < 8; person++) {
            for (int what = 0; what <= 10; what++) {
                Check.due("new person(" + person + ", " + what + ")", x.person(person, what), what == 4 ? -1 : 0);
            }
            for (int other = 0; other < 8; other++) {
                Check.due("new debt", x.debt(person, other), 0);
            }
            Check.due("new spare", x.spare(person), 0);
        }
        for (int what = 0; what <= 9; what++) {
            Check.due("new count(" + what + ")", x.count(what), 0);
        }
        Check.due("new setting(0)", x.setting(0), 5);
        Check.due("new setting(1)", x.setting(1), 20);
        Check.due("new setting(2)", x.setting(2), 5);
        Check.due("new firstError()", x.firstError(), 0);
        Check.due("new clearBuffer()", x.clearBuffer(), 0);
        Check.due("new worst()", x.worst(), -1);
        Check.dueDouble("new paidShare()", x.paidShare(), 1.0);
        Check.dueIndex("new bond(0, 0)", x, () -> x.bond(0, 0));
        Check.dueState("new undo()", x, x::undo);
    }

    private static void bring() {
        BondLayers x = new BondLayers();
        Check.due("bring(0, 1)", x.bring(0, 1), 1);
        Check.due("bring(0, 99999)", x.bring(0, 99999), 100000);
        Check.due("bring(7, 5)", x.bring(7, 5), 5);
        Check.dueCash("bring", x, 100000, 0, 0, 0, 0, 0, 0, 5);
        Check.due("bring, then count(2)", x.count(2), 100005);
        Check.due("bring, then count(3)", x.count(3), 100005);
        Check.due("bring, then count(9)", x.count(9), 3);
        Check.dueIndex("bring(-1, 1)", x, () -> x.bring(-1, 1));
        Check.dueIndex("bring(8, 1)", x, () -> x.bring(8, 1));
        Check.dueIndex("bring(8, 0)", x, () -> x.bring(8, 0));
        Check.dueIndex("bring(MIN, 1)", x, () -> x.bring(Integer.MIN_VALUE, 1));
        Check.dueIndex("bring(MAX, 1)", x, () -> x.bring(Integer.MAX_VALUE, 1));
        Check.dueArgument("bring(0, 0)", x, () -> x.bring(0, 0));
        Check.dueArgument("bring(0, -1)", x, () -> x.bring(0, -1));
        Check.dueArgument("bring(0, 100000)", x, () -> x.bring(0, 100000));
    }

    private static void takeOut() {
        BondLayers x = Check.withCash(100);
        Check.due("takeOut(0, 1)", x.takeOut(0, 1), 99);
        Check.due("takeOut(0, 99)", x.takeOut(0, 99), 0);
        Check.due("takeOut, then count(3)", x.count(3), 0);
        Check.due("takeOut, then count(2)", x.count(2), 0);
        Check.due("takeOut, then count(9)", x.count(9), 3);
        Check.dueState("takeOut(0, 1) without cash", x, () -> x.takeOut(0, 1));
        x.bring(1, 5);
        Check.dueState("takeOut(1, 6) of 5", x, () -> x.takeOut(1, 6));
        Check.dueIndex("takeOut(8, 1)", x, () -> x.takeOut(8, 1));
        Check.dueIndex("takeOut(-1, 0)", x, () -> x.takeOut(-1, 0));
        Check.dueArgument("takeOut(0, 0)", x, () -> x.takeOut(0, 0));
        Check.dueArgument("takeOut(0, 100000)", x, () -> x.takeOut(0, 100000));
        Check.due("takeOut(1, 5)", x.takeOut(1, 5), 0);
    }

    private static void takeOutKeepsWhatIsBound() {
        BondLayers x = Check.withCash(0, 100);
        Check.give(x, "p0s1000:1*254@1l");
        // 254 * 20 / 100 is 50, rounded down
        Check.due("spare(1)", x.spare(1), 50);
        Check.dueState("takeOut(1, 51)", x, () -> x.takeOut(1, 51));
        Check.due("takeOut(1, 50)", x.takeOut(1, 50), 50);
        Check.due("spare(1)", x.spare(1), 0);
        Check.dueState("takeOut(1, 1)", x, () -> x.takeOut(1, 1));
        x.set(1, 21);
        Check.due("spare(1) with less than to keep", x.spare(1), 0);
        Check.dueState("takeOut(1, 1) with less than to keep", x, () -> x.takeOut(1, 1));
        x.set(1, 0);
        Check.due("takeOut(1, 50) with 0 to keep", x.takeOut(1, 50), 0);
    }

    private static void guarantee() {
        BondLayers x = new BondLayers();
        Check.due("guarantee(0, 1, 1)", x.guarantee(0, 1, 1), -1);
        Check.due("guarantee(1, 2, 100)", x.guarantee(1, 2, 100), -1);
        Check.due("guarantee(2, 7, 33)", x.guarantee(2, 7, 33), -1);
        Check.due("person(0, 4)", x.person(0, 4), 1);
        Check.due("person(0, 5)", x.person(0, 5), 1);
        Check.due("person(0, 6)", x.person(0, 6), 3);
        Check.due("person(1, 5)", x.person(1, 5), 100);
        Check.due("person(2, 6)", x.person(2, 6), 1);
        Check.due("person(7, 6)", x.person(7, 6), 0);
        Check.due("guarantee(0, 1, 60), the same again", x.guarantee(0, 1, 60), 1);
        Check.due("person(0, 5)", x.person(0, 5), 60);
        Check.due("guarantee(0, 2, 10), farther down", x.guarantee(0, 2, 10), 1);
        Check.due("person(0, 6)", x.person(0, 6), 2);
        Check.due("guarantee(0, NONE, 0)", x.guarantee(0, BondLayers.NONE, 0), 2);
        Check.due("person(0, 4)", x.person(0, 4), -1);
        Check.due("person(0, 5)", x.person(0, 5), 0);
        Check.due("person(0, 6)", x.person(0, 6), 0);
        Check.due("guarantee(0, NONE, 101) again", x.guarantee(0, BondLayers.NONE, 101), -1);
        Check.due("a percentage of no matter is not kept", x.person(0, 5), 0);
        Check.due("count(9)", x.count(9), 6);
        Check.due("undo()", x.undo(), 5);
        Check.due("undo()", x.undo(), 4);
        Check.due("person(0, 4) restored", x.person(0, 4), 2);
        Check.due("person(0, 5) restored", x.person(0, 5), 10);
        BondLayers y = new BondLayers();
        for (int person = 0; person < 7; person++) {
            y.guarantee(person, person + 1, 50);
        }
        Check.due("the longest chain", y.person(0, 6), 7);
        Check.dueState("guarantee(7, 0, 50) round all", y, () -> y.guarantee(7, 0, 50));
    }

    private static void guaranteeThrows() {
        BondLayers x = new BondLayers();
        x.guarantee(0, 1, 50);
        x.guarantee(1, 2, 50);
        Check.dueState("guarantee(0, 0, 5)", x, () -> x.guarantee(0, 0, 5));
        Check.dueState("guarantee(1, 0, 5)", x, () -> x.guarantee(1, 0, 5));
        Check.dueState("guarantee(2, 0, 5)", x, () -> x.guarantee(2, 0, 5));
        Check.dueState("guarantee(2, 1, 5)", x, () -> x.guarantee(2, 1, 5));
        Check.dueIndex("guarantee(8, 0, 5)", x, () -> x.guarantee(8, 0, 5));
        Check.dueIndex("guarantee(-1, NONE, 5)", x, () -> x.guarantee(-1, -1, 5));
        Check.dueIndex("guarantee(0, 8, 5)", x, () -> x.guarantee(0, 8, 5));
        Check.dueIndex("guarantee(0, -2, 0)", x, () -> x.guarantee(0, -2, 0));
        Check.dueArgument("guarantee(3, 0, 0)", x, () -> x.guarantee(3, 0, 0));
        Check.dueArgument("guarantee(3, 0, 101)", x, () -> x.guarantee(3, 0, 101));
        Check.dueArgument("guarantee(0, 0, 0)", x, () -> x.guarantee(0, 0, 0));
    }

    private static void repay() {
        BondLayers x = Check.withCash(0, 100, 40);
        Check.give(x, "p0s1000:1*60+2*40@1l");
        Check.due("call", x.call(0, 80, 9), 80);
        Check.due("debt(0, 1)", x.debt(0, 1), 60);
        Check.due("debt(0, 2)", x.debt(0, 2), 20);
        Check.dueState("repay(0, 1, 1) without cash", x, () -> x.repay(0, 1, 1));
        x.bring(0, 70);
        Check.due("repay(0, 1, 25)", x.repay(0, 1, 25), 35);
        Check.dueCash("repay", x, 45, 65, 20);
        Check.dueState("repay(0, 1, 36) of 35", x, () -> x.repay(0, 1, 36));
        Check.dueState("repay(0, 2, 21) of 20", x, () -> x.repay(0, 2, 21));
        Check.due("repay(0, 1, 35)", x.repay(0, 1, 35), 0);
        Check.dueState("repay(0, 2, 11) with cash 10", x, () -> x.repay(0, 2, 11));
        Check.due("repay(0, 2, 10)", x.repay(0, 2, 10), 10);
        Check.due("count(7)", x.count(7), 10);
        Check.due("count(2)", x.count(2), 130);
        Check.due("count(9)", x.count(9), 6);
        Check.dueState("repay(1, 0, 1), the wrong way", x, () -> x.repay(1, 0, 1));
        Check.dueState("repay(1, 1, 1), to oneself", x, () -> x.repay(1, 1, 1));
        Check.dueIndex("repay(8, 0, 1)", x, () -> x.repay(8, 0, 1));
        Check.dueIndex("repay(0, 8, 0)", x, () -> x.repay(0, 8, 0));
        Check.dueIndex("repay(0, -1, 1)", x, () -> x.repay(0, -1, 1));
        Check.dueIndex("repay(-1, 0, 1)", x, () -> x.repay(-1, 0, 1));
        Check.dueArgument("repay(0, 2, 0)", x, () -> x.repay(0, 2, 0));
        Check.dueArgument("repay(0, 2, 100000)", x, () -> x.repay(0, 2, 100000));
    }

    private static void set() {
        BondLayers x = new BondLayers();
        Check.due("set(0, 0)", x.set(0, 0), 5);
        Check.due("set(0, 9)", x.set(0, 9), 0);
        Check.due("set(1, 100)", x.set(1, 100), 20);
        Check.due("set(1, 0)", x.set(1, 0), 100);
        Check.due("set(2, 9)", x.set(2, 9), 5);
        Check.due("set(2, 1)", x.set(2, 1), 9);
        Check.due("setting(0)", x.setting(0), 9);
        Check.due("setting(1)", x.setting(1), 0);
        Check.due("setting(2)", x.setting(2), 1);
        Check.due("count(9)", x.count(9), 6);
        Check.due("undo()", x.undo(), 5);
        Check.due("setting(2) restored", x.setting(2), 9);
        Check.due("set(2, 9), the same", x.set(2, 9), 9);
        Check.due("count(9), saved though nothing changed", x.count(9), 6);
        Check.dueIndex("set(3, 1)", x, () -> x.set(3, 1));
        Check.dueIndex("set(-1, -1)", x, () -> x.set(-1, -1));
        Check.dueArgument("set(0, 10)", x, () -> x.set(0, 10));
        Check.dueArgument("set(0, -1)", x, () -> x.set(0, -1));
        Check.dueArgument("set(1, 101)", x, () -> x.set(1, 101));
        Check.dueArgument("set(1, -1)", x, () -> x.set(1, -1));
        Check.dueArgument("set(2, 0)", x, () -> x.set(2, 0));
        Check.dueArgument("set(2, 10)", x, () -> x.set(2, 10));
    }
}
