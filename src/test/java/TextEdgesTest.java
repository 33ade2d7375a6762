/**
 * The edges of "Input text" and of promises 10 to 13, sentence by sentence: which character can
 * follow which beginning, the empty and the full buffer, and what can be given.
 */
public final class TextEdgesTest {
    private static final String DIGITS = "0123456789";
    private static final String NOT_ZERO = "123456789";
    private static final String PERSONS = "01234567";

    private TextEdgesTest() {
    }

    public static void main(String[] args) {
        principalAndSum();
        layers();
        milestones();
        way();
        sameForAllDigits();
        whatIsNoMatterOfSyntax();
        firstErrorIsTheFirst();
        emptyBuffer();
        fullBuffer();
        longerThanTheBuffer();
        appendOfEachCode();
        clearBuffer();
        givenOnlyWhole();
        giveClearsTheBuffer();
        giveUpToTheCash();
        giveWhenBoundByOthers();
        Check.end("TextEdgesTest");
    }

    /** Of all characters just these can follow this beginning. */
    private static void dueNext(String begin, String allowed) {
        for (int code = 33; code <= 126; code++) {
            BondLayers x = new BondLayers();
            Check.write(x, begin);
            Check.due("firstError() of " + begin, x.firstError(), begin.length());
            x.append(code);
            boolean fits = allowed.indexOf(code) >= 0;
            Check.due("firstError() of " + begin + (char) code, x.firstError(), begin.length() + (fits ? 1 : 0));
        }
    }

    /** Promise 12 and "Input text": "p" and the digit of its principal, "s" and its sum, 1 to 99999. */
    private static void principalAndSum() {
        dueNext("", "p");
        dueNext("p", PERSONS);
        dueNext("p0", "s");
        dueNext("p7", "s");
        dueNext("p0s", NOT_ZERO);
        dueNext("p0s1", DIGITS + ":");
        dueNext("p0s10", DIGITS + ":");
        dueNext("p0s999", DIGITS + ":");
        dueNext("p0s1000", DIGITS + ":");
        dueNext("p0s9999", DIGITS + ":");
        dueNext("p0s10000", ":");
        dueNext("p0s99999", ":");
    }

    /** "Input text": ":" and its layers with "+" between them, "*" and a limit, 1 to 99999; one to four layers. */
    private static void layers() {
        dueNext("p0s9:", PERSONS);
        dueNext("p0s9:7", "*");
        dueNext("p0s9:1*", NOT_ZERO);
        dueNext("p0s9:1*1", DIGITS + "+@");
        dueNext("p0s9:1*9999", DIGITS + "+@");
        dueNext("p0s9:1*10000", "+@");
        dueNext("p0s9:1*99999", "+@");
        dueNext("p0s9:1*1+", PERSONS);
        dueNext("p0s9:1*1+2", "*");
        dueNext("p0s9:1*1+2*", NOT_ZERO);
        dueNext("p0s9:1*1+2*2", DIGITS + "+@");
        dueNext("p0s9:1*1+2*2+", PERSONS);
        dueNext("p0s9:1*1+2*2+3*3", DIGITS + "+@");
        dueNext("p0s9:1*1+2*2+3*99999", "+@");
        dueNext("p0s9:1*1+2*2+3*3+", PERSONS);
        dueNext("p0s9:1*1+2*2+3*3+4*", NOT_ZERO);
        dueNext("p0s9:1*1+2*2+3*3+4*4", DIGITS + "@");
        dueNext("p0s9:1*1+2*2+3*3+4*9999", DIGITS + "@");
        dueNext("p0s9:1*1+2*2+3*3+4*99999", "@");
    }

    /** "Input text": "@" and its milestones with "+" between them, each 1 to 1000; one to five milestones. */
    private static void milestones() {
        String begin = "p0s9:1*1@";
        dueNext(begin, NOT_ZERO);
        dueNext(begin + "1", DIGITS + "+le");
        dueNext(begin + "9", DIGITS + "+le");
        dueNext(begin + "10", DIGITS + "+le");
        dueNext(begin + "99", DIGITS + "+le");
        dueNext(begin + "100", "0+le");
        dueNext(begin + "101", "+le");
        dueNext(begin + "110", "+le");
        dueNext(begin + "200", "+le");
        dueNext(begin + "999", "+le");
        dueNext(begin + "1000", "+le");
        dueNext(begin + "1+", NOT_ZERO);
        dueNext(begin + "1+1", DIGITS + "+le");
        dueNext(begin + "1+1+1", DIGITS + "+le");
        dueNext(begin + "1+1+1+1", DIGITS + "+le");
        dueNext(begin + "1+1+1+1+", NOT_ZERO);
        dueNext(begin + "1+1+1+1+1", DIGITS + "le");
        dueNext(begin + "1+1+1+1+100", "0le");
        dueNext(begin + "1+1+1+1+999", "le");
        dueNext(begin + "1+1+1+1+1000", "le");
        dueNext("p0s9:1*1+2*2+3*3+4*4@", NOT_ZERO);
        dueNext("p0s9:1*1+2*2+3*3+4*4@1", DIGITS + "+le");
    }

    /** "Input text": "and then "l" for the way 0, or "e" for the way 1"; nothing follows. */
    private static void way() {
        dueNext("p0s9:1*1@1l", "");
        dueNext("p0s9:1*1@1e", "");
        dueNext("p0s9:1*1+2*2+3*3+4*4@1+1+1+1+1e", "");
        Check.due("l", Check.withBond("p0s9:1*1@1l", 0, 9).bond(0, 2), 0);
        Check.due("e", Check.withBond("p0s9:1*1@1e", 0, 9).bond(0, 2), 1);
    }

    /** "Digits of persons are 0 to 7": each of them as a principal and as a surety. */
    private static void sameForAllDigits() {
        for (int person = 0; person < 8; person++) {
            int other = 7 - person;
            BondLayers x = Check.withBond("p" + person + "s9:" + other + "*9@1l", 9, 9, 9, 9, 9, 9, 9, 9);
            Check.due("bond(0, 0)", x.bond(0, 0), person);
            Check.due("layer(0, 0, 0)", x.layer(0, 0, 0), other);
        }
    }

    /** "(Whether persons differ, and what sums come to, is no matter of syntax.)" */
    private static void whatIsNoMatterOfSyntax() {
        String[] texts = {"p0s9:0*1@1l", "p0s9:1*1+1*1@1l", "p0s9:1*10@1l", "p0s9:1*9+2*1@1l", "p0s9:1*1@1000+1l",
            "p7s1:7*99999+7*99999+7*99999@1000+1000+1000l"};
        for (String text : texts) {
            BondLayers x = Check.withText(text, 99, 99, 99, 99, 99, 99, 99, 99);
            Check.due("firstError() of " + text, x.firstError(), text.length());
            Check.dueArgument("give() of " + text, x, x::give);
        }
    }

    /** Promise 12: "the index of the first character that is a syntax error". */
    private static void firstErrorIsTheFirst() {
        String whole = "p0s9:1*1+2*2@10+1000e";
        for (int index = 0; index <= whole.length(); index++) {
            BondLayers x = new BondLayers();
            Check.write(x, whole.substring(0, index) + "x" + whole.substring(index) + "x");
            Check.due("an x at " + index, x.firstError(), index);
            Check.due("firstError() leaves the buffer", x.clearBuffer(), whole.length() + 2);
        }
    }

    /** Nothing there yet: promise 11 "the length that it had", 12 "the length .. if there is none", 13. */
    private static void emptyBuffer() {
        BondLayers x = new BondLayers();
        Check.due("firstError() of nothing", x.firstError(), 0);
        Check.due("clearBuffer() of nothing", x.clearBuffer(), 0);
        Check.dueArgument("give() of nothing", x, x::give);
        x.append('p');
        Check.due("clearBuffer()", x.clearBuffer(), 1);
        Check.due("firstError() of what was cleared", x.firstError(), 0);
        Check.dueArgument("give() of what was cleared", x, x::give);
        Check.due("append(112) to what was cleared", x.append(112), 1);
        Check.write(x, "x");
        x.clearBuffer();
        Check.due("an error that was cleared", x.firstError(), 0);
    }

    /** "The buffer has at most 60 characters"; promise 10: IllegalStateException "if the buffer has 60 characters". */
    private static void fullBuffer() {
        // a whole bond of exactly 60 characters, of 59, and a beginning of 60
        String of60 = "p0s99999:1*10000+2*10000+3*10000+4*10000@100+200+300+200+20e";
        String of59 = "p0s99999:1*10000+2*10000+3*10000+4*10000@100+200+300+200+2e";
        Check.due("a text of", of60.length(), 60);
        Check.due("a text of", of59.length(), 59);
        BondLayers x = Check.withCash(0, 99999, 99999, 99999, 99999);
        x.set(2, 9);
        for (int index = 0; index < 60; index++) {
            Check.due("append() at " + index, x.append(of60.charAt(index)), index + 1);
        }
        Check.due("firstError() of 60", x.firstError(), 60);
        for (int code = 33; code <= 126; code += 31) {
            int each = code;
            Check.dueState("append(" + code + ") to 60", x, () -> x.append(each));
        }
        Check.due("give() of 60", x.give(), 0);
        Check.due("append() after give()", x.append('p'), 1);
        x.clearBuffer();
        Check.write(x, of59);
        Check.due("append() to 59", x.append('+'), 60);
        Check.due("firstError() at the last of 60", x.firstError(), 59);
        Check.dueArgument("give() of an error at the last of 60", x, x::give);
        Check.due("clearBuffer() of 60", x.clearBuffer(), 60);
        Check.due("give() of 59", Check.give(x, of59), 1);
    }

    /** "no bond as a text begins with the characters before it": a bond as a text may be longer than 60. */
    private static void longerThanTheBuffer() {
        String longest = "p0s99999:1*99999+2*99999+3*99999+4*99999@1000+1000+1000+1000+1000l";
        Check.due("the longest text", longest.length(), 66);
        BondLayers x = Check.withText(longest.substring(0, 60), 0, 99999, 99999, 99999, 99999);
        Check.due("firstError() of its 60 first", x.firstError(), 60);
        Check.dueArgument("give() of its 60 first", x, x::give);
    }

    /** Promise 10: "the character code, 33 to 126"; "IllegalArgumentException if code is not 33 to 126". */
    private static void appendOfEachCode() {
        for (int code = 33; code <= 126; code++) {
            BondLayers x = new BondLayers();
            Check.due("append(" + code + ")", x.append(code), 1);
        }
        int[] wrong = {32, 127, 0, 31, 128, 255, -1, -33, 33 - 256, 33 + 256, 33 + 65536, Integer.MIN_VALUE,
            Integer.MAX_VALUE};
        for (int code : wrong) {
            BondLayers x = new BondLayers();
            Check.dueArgument("append(" + code + ")", x, () -> x.append(code));
            Check.due("nothing was appended", x.clearBuffer(), 0);
            BondLayers full = Check.withText("x".repeat(60));
            Check.dueArgument("append(" + code + ") to 60", full, () -> full.append(code));
        }
    }

    /** Promise 11: "Returns the length that it had". */
    private static void clearBuffer() {
        for (int length = 0; length <= 60; length++) {
            BondLayers x = Check.withText("p".repeat(length));
            Check.due("clearBuffer() of " + length, x.clearBuffer(), length);
            Check.due("clearBuffer() once more", x.clearBuffer(), 0);
        }
    }

    /** Promise 13: IllegalArgumentException "if the buffer is not a complete bond as a text". */
    private static void givenOnlyWhole() {
        String whole = "p0s99:1*5+2*7+3*2+4*1@1+20+300+4+5l";
        for (int length = 0; length < whole.length(); length++) {
            String part = whole.substring(0, length);
            Check.dueRefused("give() of " + part, IllegalArgumentException.class,
                () -> Check.withText(part, 0, 99, 99, 99, 99), x -> x.give());
        }
        Check.dueRefused("give() of more than a whole", IllegalArgumentException.class,
            () -> Check.withText(whole + "l", 0, 99, 99, 99, 99), x -> x.give());
        Check.due("give() of the whole", Check.withText(whole, 0, 99, 99, 99, 99).give(), 0);
    }

    /** Promise 13: "Gives the bond of the buffer, and clears the buffer"; a refused call clears nothing. */
    private static void giveClearsTheBuffer() {
        BondLayers x = Check.withText("p0s9:1*1@1l", 0, 1);
        Check.due("give()", x.give(), 0);
        Check.due("clearBuffer()", x.clearBuffer(), 0);
        Check.write(x, "p0s9:1*5@1l");
        Check.dueState("give() of too much", x, x::give);
        Check.due("the buffer stays", x.clearBuffer(), 11);
        Check.write(x, "p0s9:1*1@1");
        Check.dueArgument("give() of a part", x, x::give);
        Check.due("append() goes on", x.append('l'), 11);
        Check.due("give() goes on", x.give(), 1);
    }

    /** Promise 13: IllegalStateException if "a surety would be bound for more than the cash times setting 2". */
    private static void giveUpToTheCash() {
        for (int times = 1; times <= 9; times += 4) {
            for (int layer = 0; layer < 4; layer++) {
                int setting = times;
                String within = withLimit(layer, 10 * times);
                String beyond = withLimit(layer, 10 * times + 1);
                Check.dueRefused("give() of " + beyond, IllegalStateException.class,
                    () -> withTimes(setting, beyond), x -> x.give());
                Check.due("give() of " + within, withTimes(setting, within).give(), 0);
            }
        }
        Check.dueRefused("give() without cash", IllegalStateException.class,
            () -> withTimes(9, "p0s9:5*1@1l"), x -> x.give());
        BondLayers x = withTimes(1, "p0s9:5*1@1l");
        x.bring(5, 1);
        Check.due("give() with cash 1", x.give(), 0);
        // the principal's cash is of no matter
        Check.due("give() of a principal without cash", Check.withText("p0s99:1*9@1l", 0, 9).give(), 0);
    }

    private static BondLayers withTimes(int times, String text) {
        BondLayers x = Check.withText(text, 0, 10, 10, 10, 10);
        x.set(2, times);
        return x;
    }

    private static String withLimit(int layer, int limit) {
        StringBuilder text = new StringBuilder("p0s999:");
        for (int each = 0; each < 4; each++) {
            text.append(each == 0 ? "" : "+").append(each + 1).append('*').append(each == layer ? limit : 1);
        }
        return text.append("@1l").toString();
    }

    /** Promise 13: "would be bound for": with what is left of the limits of other bonds, and no more. */
    private static void giveWhenBoundByOthers() {
        BondLayers x = Check.withBond("p0s100:1*20+2*1@800l", 0, 10, 10);
        Check.due("give() of 30 more", Check.give(x, "p2s100:1*30@1l"), 1);
        Check.write(x, "p3s100:1*1@1l");
        Check.dueState("give() of 1 more", x, x::give);
        x.reach(0);
        // 20 are left: the second layer was trimmed, the first is as it was
        Check.dueState("give() of 1 more, nothing trimmed", x, x::give);
        x.call(0, 1, 9);
        // the cash is 9 now, and 19 and 30 are left
        Check.dueState("give() with less cash", x, x::give);
        x.bring(1, 1);
        Check.due("give() of 1 more, 1 was paid", x.give(), 2);
        x.end(1);
        Check.write(x, "p3s100:1*31@1l");
        Check.dueState("give() of 31 more, 30 came free", x, x::give);
        Check.due("give() of 30 more, 30 came free", Check.give(x, "p3s100:1*30@1l"), 3);
    }
}
