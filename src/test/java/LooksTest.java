/** Promises 15 to 20: person, bond, layer, debt, count, setting. */
public final class LooksTest {
    private LooksTest() {
    }

    public static void main(String[] args) {
        BondLayers x = busy();
        person(x);
        bond(x);
        layer(x);
        debt(x);
        count(x);
        setting(x);
        looksThrow(x);
        Check.end("LooksTest");
    }

    /** Two bonds that run and one that was ended, with debts both ways and a chain. */
    private static BondLayers busy() {
        BondLayers x = Check.withCash(10, 300, 200, 50);
        x.guarantee(0, 3, 50);
        Check.give(x, "p0s400:1*200+2*100@250+500l");
        Check.give(x, "p1s300:2*100+0*20@1e");
        Check.give(x, "p0s50:2*50@100+900l");
        x.call(0, 110, 5);
        x.reach(0);
        x.takeOut(1, 200);
        x.call(1, 90, 5);
        x.end(2);
        return x;
    }

    private static void person(BondLayers x) {
        // the call of bond 0: 10 by person 0, 100 by person 1, 50 of those made good by person 3
        // the call of bond 1: 50 by person 1, 40 shared: 33 by person 2, 7 wanted of person 0 who has 0
        int[][] want = {
            {0, 100, 0, 20, 3, 50, 1, 10, 0, 0, 1},
            {0, 33, 50, 100, -1, 0, 0, 50, 100, 0, 1},
            {167, 0, 33, 157, -1, 0, 0, 0, 33, 0, 0},
            {0, 0, 50, 0, -1, 0, 0, 0, 0, 50, 0},
        };
        for (int person = 0; person < want.length; person++) {
            for (int what = 0; what <= 10; what++) {
                Check.due("person(" + person + ", " + what + ")", x.person(person, what), want[person][what]);
            }
        }
    }

    private static void bond(BondLayers x) {
        int[][] want = {
            {0, 400, 0, 2, 2, 1, 110, 110, 100, 190, 190, 1},
            {1, 300, 1, 2, 1, 0, 90, 83, 0, 210, 87, 1},
            {0, 50, 0, 1, 2, 0, 0, 0, 50, 0, 0, 0},
        };
        for (int bond = 0; bond < want.length; bond++) {
            for (int what = 0; what <= 11; what++) {
                Check.due("bond(" + bond + ", " + what + ")", x.bond(bond, what), want[bond][what]);
            }
        }
    }

    private static void layer(BondLayers x) {
        int[][][] want = {
            {{1, 200, 100, 100}, {2, 100, 90, 0}},
            {{2, 100, 67, 33}, {0, 20, 20, 0}},
            {{2, 50, 0, 0}},
        };
        // the limits of bond 0 together, 100 and 100, were trimmed to 190 by the milestone
        for (int bond = 0; bond < want.length; bond++) {
            for (int layer = 0; layer < want[bond].length; layer++) {
                for (int what = 0; what < 4; what++) {
                    Check.due("layer(" + bond + ", " + layer + ", " + what + ")",
                        x.layer(bond, layer, what), want[bond][layer][what]);
                }
            }
        }
    }

    private static void debt(BondLayers x) {
        Check.due("debt(0, 1)", x.debt(0, 1), 50);
        Check.due("debt(0, 3)", x.debt(0, 3), 50);
        Check.due("debt(1, 2)", x.debt(1, 2), 33);
        Check.due("debt(2, 1)", x.debt(2, 1), 0);
        Check.due("debt(1, 0)", x.debt(1, 0), 0);
        for (int person = 0; person < 8; person++) {
            Check.due("debt to oneself", x.debt(person, person), 0);
        }
        BondLayers y = Check.withCash(50, 50);
        Check.give(y, "p0s100:1*100@1l");
        Check.give(y, "p1s100:0*100@1l");
        y.takeOut(0, 30);
        y.call(0, 40, 5);
        y.takeOut(1, 10);
        y.bring(0, 30);
        y.call(1, 25, 5);
        Check.due("debt(0, 1), they owe to each other", y.debt(0, 1), 20);
        Check.due("debt(1, 0), they owe to each other", y.debt(1, 0), 5);
        Check.due("count(7)", y.count(7), 25);
    }

    private static void count(BondLayers x) {
        int[] want = {3, 2, 167, 360, 200, 193, 7, 133, 150, 6};
        for (int what = 0; what <= 9; what++) {
            Check.due("count(" + what + ")", x.count(what), want[what]);
        }
    }

    private static void setting(BondLayers x) {
        Check.due("setting(0)", x.setting(0), 5);
        Check.due("setting(1)", x.setting(1), 20);
        Check.due("setting(2)", x.setting(2), 5);
    }

    private static void looksThrow(BondLayers x) {
        Check.dueIndex("person(8, 0)", x, () -> x.person(8, 0));
        Check.dueIndex("person(-1, 11)", x, () -> x.person(-1, 11));
        Check.dueArgument("person(0, 11)", x, () -> x.person(0, 11));
        Check.dueArgument("person(0, -1)", x, () -> x.person(0, -1));
        Check.dueIndex("bond(3, 0)", x, () -> x.bond(3, 0));
        Check.dueIndex("bond(-1, 12)", x, () -> x.bond(-1, 12));
        Check.dueArgument("bond(0, 12)", x, () -> x.bond(0, 12));
        Check.dueArgument("bond(0, -1)", x, () -> x.bond(0, -1));
        Check.dueIndex("layer(3, 0, 0)", x, () -> x.layer(3, 0, 0));
        Check.dueIndex("layer(-1, 0, 0)", x, () -> x.layer(-1, 0, 0));
        Check.dueIndex("layer(-2, 0, 0)", x, () -> x.layer(-2, 0, 0));
        Check.dueIndex("layer(10, 0, 0)", x, () -> x.layer(10, 0, 0));
        Check.dueIndex("layer(MAX, 0, 0)", x, () -> x.layer(Integer.MAX_VALUE, 0, 0));
        Check.dueIndex("layer(0, 2, 0)", x, () -> x.layer(0, 2, 0));
        Check.dueIndex("layer(2, 1, 4)", x, () -> x.layer(2, 1, 4));
        Check.dueIndex("layer(0, -1, 0)", x, () -> x.layer(0, -1, 0));
        Check.dueArgument("layer(0, 0, 4)", x, () -> x.layer(0, 0, 4));
        Check.dueArgument("layer(0, 0, -1)", x, () -> x.layer(0, 0, -1));
        Check.dueIndex("debt(8, 0)", x, () -> x.debt(8, 0));
        Check.dueIndex("debt(0, 8)", x, () -> x.debt(0, 8));
        Check.dueIndex("debt(-1, 0)", x, () -> x.debt(-1, 0));
        Check.dueIndex("debt(0, -1)", x, () -> x.debt(0, -1));
        Check.dueArgument("count(MAX)", x, () -> x.count(Integer.MAX_VALUE));
        Check.dueArgument("count(10)", x, () -> x.count(10));
        Check.dueArgument("count(-1)", x, () -> x.count(-1));
        Check.dueIndex("setting(3)", x, () -> x.setting(3));
        Check.dueIndex("setting(-1)", x, () -> x.setting(-1));
    }
}
