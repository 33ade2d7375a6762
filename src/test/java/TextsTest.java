/** Promises 10 to 14: append, clearBuffer, firstError, give, undo. */
public final class TextsTest {
    private static final int[] FULL_CASH = {99999, 99999, 99999, 99999, 99999, 99999, 99999, 99999};

    private TextsTest() {
    }

    public static void main(String[] args) {
        append();
        clearBuffer();
        firstErrors();
        longTexts();
        give();
        giveOfWrongTexts();
        giveOfWrongBonds();
        giveBeyondTenBonds();
        giveBeyondCash();
        undo();
        undoKeepsSix();
        undoLeavesTheBuffer();
        Check.end("TextsTest");
    }

    private static void append() {
        BondLayers x = new BondLayers();
        Check.due("append(33)", x.append(33), 1);
        Check.due("append(126)", x.append(126), 2);
        Check.dueArgument("append(32)", x, () -> x.append(32));
        Check.dueArgument("append(127)", x, () -> x.append(127));
        Check.dueArgument("append(-80)", x, () -> x.append(-80));
        for (int length = 3; length <= 60; length++) {
            Check.due("append(48)", x.append(48), length);
        }
        Check.dueState("append(48) to 60", x, () -> x.append(48));
        Check.dueArgument("append(32) to 60", x, () -> x.append(32));
        Check.due("count(9), append saves nothing", x.count(9), 0);
    }

    private static void clearBuffer() {
        BondLayers x = new BondLayers();
        Check.due("clearBuffer() of nothing", x.clearBuffer(), 0);
        Check.write(x, "p0s");
        Check.due("clearBuffer()", x.clearBuffer(), 3);
        Check.due("clearBuffer() again", x.clearBuffer(), 0);
        Check.due("firstError()", x.firstError(), 0);
        Check.due("count(9), clearBuffer saves nothing", x.count(9), 0);
        for (int index = 0; index < 60; index++) {
            x.append('p');
        }
        Check.due("clearBuffer() of 60", x.clearBuffer(), 60);
        Check.due("append(112)", x.append(112), 1);
    }

    private static void dueError(String text, int want) {
        BondLayers x = new BondLayers();
        Check.write(x, text);
        Check.due("firstError() of " + text, x.firstError(), want);
        Check.due("firstError() of " + text + " again", x.firstError(), want);
        Check.due("clearBuffer() of " + text, x.clearBuffer(), text.length());
    }

    private static void dueNoError(String text) {
        dueError(text, text.length());
    }

    private static void firstErrors() {
        String whole = "p0s10:1*5+7*4@1+1000+20+300+4e";
        for (int length = 0; length <= whole.length(); length++) {
            dueNoError(whole.substring(0, length));
        }
        dueError(whole + "e", whole.length());
        dueError(whole + "+", whole.length());
        for (String text : new String[] {"P", "0", "s", "x", "!", "~"}) {
            dueError(text, 0);
        }
        for (String text : new String[] {"p8", "p9", "p/", "p:", "ps", "pp"}) {
            dueError(text, 1);
        }
        for (String text : new String[] {"p00", "p0:", "p0S"}) {
            dueError(text, 2);
        }
        for (String text : new String[] {"p0s0", "p0s:", "p0s-1"}) {
            dueError(text, 3);
        }
        dueNoError("p0s99999");
        dueError("p0s100000", 8);
        dueError("p0s1a", 4);
        dueError("p0s1+", 4);
        dueNoError("p7s10203:");
        dueError("p0s1:8", 5);
        dueError("p0s1:*", 5);
        dueError("p0s1:@", 5);
        dueError("p0s1:1+", 6);
        dueError("p0s1:11", 6);
        dueError("p0s1:1*0", 7);
        dueError("p0s1:1*@", 7);
        dueError("p0s1:1*+", 7);
        dueNoError("p0s1:1*99999");
        dueError("p0s1:1*999990", 12);
        dueError("p0s1:1*1:", 8);
        dueError("p0s1:1*1l", 8);
        dueError("p0s1:1*1+@", 9);
        dueNoError("p0s1:1*1+1*1+1*1+1*1@");
        dueError("p0s1:1*1+1*1+1*1+1*1+", 20);
        dueError("p0s1:1*1@0", 9);
        dueError("p0s1:1*1@l", 9);
        dueError("p0s1:1*1@+", 9);
        dueError("p0s1:1*1@1@", 10);
        dueError("p0s1:1*1@1L", 10);
        dueError("p0s1:1*1@1+e", 11);
        dueNoError("p0s1:1*1@1000");
        dueError("p0s1:1*1@1001", 12);
        dueError("p0s1:1*1@1010", 12);
        dueError("p0s1:1*1@10000", 13);
        dueError("p0s1:1*1@9990", 12);
        dueError("p0s1:1*1@1+1+1+1+1+", 18);
        dueNoError("p0s1:1*1@1+1+1+1+1l");
        // persons that are the same and sums that are too great are no errors of syntax
        dueNoError("p0s1:0*9+0*9@1000+1000l");
    }

    private static void longTexts() {
        String begin = "p0s99999:1*99999+2*99999+3*99999+4*99999@1000+1000+1000+1000";
        dueNoError(begin.substring(0, 60));
        BondLayers x = new BondLayers();
        Check.write(x, begin.substring(0, 60));
        Check.dueArgument("give() of a full buffer without an end", x, x::give);
    }

    private static void give() {
        BondLayers x = Check.withCash(0, 200, 300);
        Check.write(x, "p3s1000:2*400+1*600@100+900e");
        Check.due("give()", x.give(), 0);
        Check.due("clearBuffer(), cleared by give()", x.clearBuffer(), 0);
        int[] bond = {3, 1000, 1, 2, 2, 0, 0, 0, 0, 1000, 1000, 1};
        for (int what = 0; what < bond.length; what++) {
            Check.due("bond(0, " + what + ")", x.bond(0, what), bond[what]);
        }
        int[][] layers = {{2, 400, 400, 0}, {1, 600, 600, 0}};
        for (int layer = 0; layer < 2; layer++) {
            for (int what = 0; what < 4; what++) {
                Check.due("layer(0, " + layer + ", " + what + ")", x.layer(0, layer, what), layers[layer][what]);
            }
        }
        Check.due("reach(0)", x.reach(0), 100);
        Check.due("reach(0)", x.reach(0), 900);
        Check.due("give() of the way 0", Check.give(x, "p4s7:1*1@5l"), 1);
        Check.due("bond(1, 2)", x.bond(1, 2), 0);
        Check.due("count(9), two brought, two given, two reached", x.count(9), 6);
        // a number that an undone bond had comes back without anything of it
        x.call(1, 1, 9);
        x.undo();
        x.undo();
        Check.due("give() again", Check.give(x, "p5s9:2*1@5e"), 1);
        Check.due("bond(1, 6)", x.bond(1, 6), 0);
        Check.due("layer(1, 0, 3)", x.layer(1, 0, 3), 0);
    }

    private static void giveOfWrongTexts() {
        BondLayers x = Check.withCash(FULL_CASH);
        String whole = "p0s10:1*5+7*4@1+20l";
        for (int length = 0; length < whole.length(); length++) {
            Check.write(x, whole.substring(0, length));
            Check.dueArgument("give() of " + whole.substring(0, length), x, x::give);
            Check.due("count(0)", x.count(0), 0);
        }
        for (String text : new String[] {whole + "l", "x" + whole, "p0s10:1*5+7*4+@1l", "p0s010:1*5@1l", "p0s1:1*1@1001l"}) {
            Check.write(x, text);
            Check.dueArgument("give() of " + text, x, x::give);
        }
        Check.due("count(0)", x.count(0), 0);
        Check.write(x, whole);
        Check.due("give() of the whole", x.give(), 0);
    }

    private static void giveOfWrongBonds() {
        BondLayers x = Check.withCash(FULL_CASH);
        String[] wrong = {"p1s10:1*5@1l", "p0s10:1*1+0*5@1l", "p0s10:1*1+1*1@1l", "p0s10:1*1+2*1+3*1+1*1@1l",
            "p0s10:1*1+2*1+3*1+2*1@1l", "p0s10:1*1+2*1+3*1+3*1@1l", "p0s10:1*11@1l", "p0s10:1*5+2*6@1l",
            "p0s10:1*5+2*3+3*3@1e", "p0s10:1*5@1000+1l", "p0s10:1*5@500+300+100+100+1e"};
        for (String text : wrong) {
            Check.write(x, text);
            Check.dueArgument("give() of " + text, x, x::give);
        }
        String[] right = {"p0s10:1*10@1000l", "p0s10:1*4+2*3+3*2+4*1@500+300+100+50+50e", "p7s1:0*1@1l"};
        for (int bond = 0; bond < right.length; bond++) {
            Check.due("give() of " + right[bond], Check.give(x, right[bond]), bond);
        }
    }

    private static void giveBeyondTenBonds() {
        BondLayers x = Check.withCash(FULL_CASH);
        for (int bond = 0; bond < 10; bond++) {
            Check.due("give()", Check.give(x, "p0s10:1*1@1l"), bond);
        }
        Check.write(x, "p0s10:1*1@1l");
        Check.dueState("give() of the 11th", x, x::give);
        x.end(0);
        Check.dueState("give() of the 11th, one was ended", x, x::give);
        Check.write(x, "p0s10:0*1@1l");
        Check.dueArgument("give() of the 11th, wrong too", x, x::give);
        x.undo();
        x.undo();
        Check.due("give() after undo", Check.give(x, "p0s10:1*1@1l"), 9);
    }

    private static void giveBeyondCash() {
        BondLayers x = Check.withCash(0, 10, 20);
        Check.write(x, "p0s1000:1*51@1l");
        Check.dueState("give(), 51 with cash 10", x, x::give);
        Check.due("give(), 50 with cash 10", Check.give(x, "p0s1000:1*50@1l"), 0);
        Check.write(x, "p0s1000:1*1@1l");
        Check.dueState("give(), 51 in all with cash 10", x, x::give);
        Check.write(x, "p0s1000:2*100+1*1@1l");
        Check.dueState("give(), the second layer is too much", x, x::give);
        Check.write(x, "p0s1000:2*101@1l");
        Check.dueState("give(), 101 with cash 20", x, x::give);
        x.set(2, 6);
        Check.due("give(), 120 with cash 20", Check.give(x, "p0s1000:2*120+1*10@1l"), 1);
        x.end(0);
        Check.due("give(), the first was ended", Check.give(x, "p0s1000:1*50@1l"), 2);
        x.set(2, 1);
        Check.write(x, "p0s1000:3*1@1l");
        Check.dueState("give(), no cash at all", x, x::give);
        x.bring(3, 1);
        Check.due("give(), 1 with cash 1", x.give(), 3);
    }

    private static void undo() {
        BondLayers x = Check.withCash(50, 100);
        x.guarantee(0, 2, 50);
        Check.give(x, "p0s100:1*90@100+200e");
        x.set(0, 3);
        long before = x.digest();
        x.call(0, 70, 3);
        Check.due("undo() of call", x.undo(), 5);
        // one state more was saved when the call came, and the digest holds the count of those
        x.set(0, 3);
        x.undo();
        Check.due("debt(0, 1)", x.debt(0, 1), 0);
        Check.dueCash("undo() of call", x, 50, 100);
        Check.due("person(0, 7)", x.person(0, 7), 0);
        Check.due("person(1, 8)", x.person(1, 8), 0);
        Check.dueLeft("undo() of call", x, 0, 90);
        Check.due("digest()", x.digest(), before);
        x.reach(0);
        x.undo();
        x.end(0);
        x.undo();
        Check.due("digest() after reach, end and undo", x.digest(), before);
        Check.due("undo() of set", x.undo(), 4);
        Check.due("setting(0)", x.setting(0), 5);
        Check.due("undo() of give", x.undo(), 3);
        Check.due("count(0)", x.count(0), 0);
        Check.due("undo() of guarantee", x.undo(), 2);
        Check.due("person(0, 4)", x.person(0, 4), -1);
        Check.due("undo() of bring", x.undo(), 1);
        Check.dueCash("undo() of bring", x, 50, 0);
        Check.due("undo() of bring", x.undo(), 0);
        Check.due("count(3)", x.count(3), 0);
        Check.dueState("undo() of nothing", x, x::undo);
    }

    private static void undoKeepsSix() {
        BondLayers x = new BondLayers();
        for (int times = 1; times <= 20; times++) {
            x.bring(0, 1);
            Check.due("count(9)", x.count(9), Math.min(6, times));
        }
        for (int left = 5; left >= 0; left--) {
            Check.due("undo()", x.undo(), left);
            Check.due("person(0, 0)", x.person(0, 0), 14 + left);
        }
        Check.dueState("undo() of the seventh", x, x::undo);
        x.bring(0, 10);
        Check.due("undo()", x.undo(), 0);
        Check.due("person(0, 0)", x.person(0, 0), 14);
    }

    private static void undoLeavesTheBuffer() {
        BondLayers x = Check.withCash(0, 100);
        Check.give(x, "p0s10:1*1@1l");
        Check.write(x, "p0s");
        Check.due("undo() of give", x.undo(), 1);
        Check.due("the buffer stays", x.clearBuffer(), 3);
        Check.write(x, "p0s10:1*1@1l");
        x.give();
        Check.due("undo() of give", x.undo(), 1);
        Check.due("the buffer stays clear", x.clearBuffer(), 0);
    }
}
