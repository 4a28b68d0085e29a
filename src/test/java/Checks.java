import java.util.ArrayList;
import java.util.List;
import java.util.function.Predicate;

/** What the tests that stand on answers worked out by hand share; no test itself. */
class Checks {
    static final int BAD = -1000000001, NO = -1000000002, FULL = -1000000003, NONE = -1000000005;
    static final int NOTHING = -1000000011, KIND = -1000000012, INDEX = -1000000013, SIZE = -1000000014;
    static final int MIN = Integer.MIN_VALUE, MAX = Integer.MAX_VALUE;
    private static int wrong = 0;
    private static int asked = 0;
    private static int sentences = 0;
    private static String sentence = "";

    interface Call {
        int on(CorkBreaks x);
    }

    interface CallWith {
        int on(CorkBreaks x, int v);
    }

    interface Setup {
        CorkBreaks made();
    }

    /** The sentence of the document to which the calls that follow hold the class. */
    static void said(String words) {
        sentence = "'" + words + "': ";
        sentences++;
    }

    static void due(String call, int got, int want) {
        asked++;
        if (got != want) {
            wrong++;
            System.out.println(sentence + call + " answered " + got + ", due is " + want);
        }
    }

    static void holds(String what, boolean it) {
        due(what, it ? 1 : 0, 1);
    }

    static void ends() {
        System.out.println((sentences > 0 ? sentences + " sentences, " : "") + asked + " answers, " + wrong + " not as due");
        if (wrong != 0) {
            System.exit(1);
        }
    }

    /** Both ends of a range are taken; what lies right outside of it, and far outside, is BAD. */
    static void range(Setup setup, int least, int most, CallWith call) {
        for (int v : new int[] {least, most}) {
            int answer = call.on(setup.made(), v);
            holds("with " + v + ", the end of a range, it answered " + answer + "; that it is taken", answer != BAD);
        }
        for (int v : new int[] {least - 1, most + 1, MIN, MAX}) {
            due("with " + v, call.on(setup.made(), v), BAD);
        }
    }

    /** The numbers that draws give, worked out apart from the class. */
    static final class Draws {
        int z;

        Draws(int z) {
            this.z = z;
        }

        int next(int by) {
            z = (int) (z * 1103515245L + 12345L);
            return (int) ((z & 0xffffffffL) / 256 % by);
        }
    }

    /** The first z from 0 on whose draws are as wanted. */
    static int seedWith(Predicate<Draws> wanted) {
        for (int z = 0; z < 10000000; z++) {
            if (wanted.test(new Draws(z))) {
                return z;
            }
        }
        throw new IllegalArgumentException("there is no such z");
    }

    /** Brings a text to the (empty) tape. */
    static void put(CorkBreaks x, String text) {
        byte[] bytes = new byte[(text.length() + 11) / 12 * 12];
        for (int k = 0; k < text.length(); k++) {
            bytes[k] = (byte) text.charAt(k);
        }
        for (int k = 0; k < bytes.length; k += 12) {
            due("feed for " + text, x.feed(word(bytes, k), word(bytes, k + 4), word(bytes, k + 8)), k + 12);
        }
        due("trim for " + text, x.trim(text.length()), text.length());
    }

    private static int word(byte[] bytes, int at) {
        return (bytes[at] & 255) << 24 | (bytes[at + 1] & 255) << 16 | (bytes[at + 2] & 255) << 8 | bytes[at + 3] & 255;
    }

    static int text(CorkBreaks x, String text) {
        put(x, text);
        int answer = x.text();
        due("count(6) behind text of " + text, x.count(6), 0);
        return answer;
    }

    /** STRENGTH (what 0) or HOLD (1) of the LAYERS from 0 on. */
    static void layers(CorkBreaks x, int bottle, int what, int... v) {
        for (int k = 0; k < v.length; k++) {
            due("sets " + bottle + " " + k, Math.min(x.sets(bottle, k, what, v[k]), 0), 0);
        }
    }

    static CorkBreaks withBottle(int kind, int years, int lying) {
        CorkBreaks x = new CorkBreaks();
        due("the first bottle", x.bottle(kind, years, lying), 0);
        return x;
    }

    /** A BOTTLE of KIND 0 with such STRENGTH and HOLD, 6 of each. */
    static CorkBreaks withCork(int[] strength, int[] hold) {
        CorkBreaks x = withBottle(0, 0, 0);
        layers(x, 0, 0, strength);
        layers(x, 0, 1, hold);
        return x;
    }

    static int[] row(int... v) {
        return v;
    }

    /** One BOTTLE of each KIND k, 10 k + 5 YEARS old; those of odd KINDS lie. */
    static CorkBreaks ofKinds() {
        CorkBreaks x = new CorkBreaks();
        for (int k = 0; k < 6; k++) {
            x.bottle(k, 10 * k + 5, k % 2);
        }
        return x;
    }

    /** BOTTLES 0 and 3 whole, 1 with none left, 2 with 5 left and WARM 3; something of all that can be told. */
    static CorkBreaks busy() {
        CorkBreaks x = new CorkBreaks();
        x.bottle(0, 10, 0);
        x.bottle(1, 23, 1);
        x.bottle(2, 36, 0);
        x.bottle(3, 49, 1);
        due("one layer torn", x.pull(2, 1, 999), 1);
        due("text of busy", text(x, "hard s+l"), 0);
        x.keep();
        x.tell(x.behind(1, 0));
        x.tell(x.behind(1, 1));
        x.push(1);
        for (int k = 0; k < 3; k++) {
            x.warm(2);
        }
        x.years(2);
        due("text of busy", text(x, "fine l*2+y"), 1);
        x.sheet(0, 0, 7);
        x.mark(0, 0, 12);
        x.mark(0, 6, 5);
        x.sheet(1, 1, 3);
        x.mark(1, 0, 1);
        x.mark(1, 1, NONE);
        x.mark(1, 2, -4);
        x.sheet(3, 0, 0);
        x.lay(0, 1, 3);
        x.lay(1, 2, 1);
        x.lay(2, 3, -17);
        x.lay(4, 2, 0);
        put(x, "fee c*3+1");
        return x;
    }

    /** All that can be seen of an object made from busy(); it is used up by that. */
    static List<String> seen(CorkBreaks x) {
        List<String> all = new ArrayList<>();
        seesCounts(x, all, "");
        seesBottles(x, all, "");
        for (int k = 0; k < 4; k++) {
            all.add("cellar " + k + " is " + x.cellar(k));
            all.add("fine " + k + " is " + x.fine(k));
            all.add("textTold " + k / 2 + " " + k % 2 + " is " + x.textTold(k / 2, k % 2));
            all.add("why " + k + " is " + x.why(k));
        }
        all.add("behind is " + x.behind(9, 0) + ", " + x.behind(9, 1) + ", fee is " + x.fee());
        seesSlots(x, all);
        seesSheets(x, all);
        all.add("check is " + x.check(1));
        all.add("text is " + x.text() + ", fee is " + x.fee());
        all.add("back is " + x.back());
        seesCounts(x, all, "of the image ");
        seesBottles(x, all, "of the image ");
        return all;
    }

    private static void seesCounts(CorkBreaks x, List<String> all, String of) {
        for (int k = 0; k < 8; k++) {
            all.add(of + "count " + k + " is " + x.count(k));
        }
    }

    private static void seesBottles(CorkBreaks x, List<String> all, String of) {
        for (int b = 0; b < x.count(0); b++) {
            for (int k = 0; k < 8; k++) {
                all.add(of + "told " + b + " " + k + " is " + x.told(b, k));
            }
            for (int k = 0; k < 12; k++) {
                all.add(of + "layer " + b + " " + k / 2 + " " + k % 2 + " is " + x.layer(b, k / 2, k % 2));
            }
        }
        all.add(of + "strong is " + x.layer(0, 1, 2));
    }

    private static void seesSlots(CorkBreaks x, List<String> all) {
        for (int s = 0; s < 5; s++) {
            for (int k = 0; k < 6; k++) {
                all.add("ask " + s + " " + k + " is " + x.ask(s, k));
            }
            for (int k = 0; k < 8; k++) {
                all.add("item " + s + " " + k + " is " + x.item(s, k));
            }
            all.add("rest " + s + " is " + x.rest(s, 1000003));
        }
    }

    private static void seesSheets(CorkBreaks x, List<String> all) {
        for (int s = 0; s < 4; s++) {
            all.add("lay of sheet " + s + " is " + x.lay(0, 2, s));
            for (int k = 0; k < 8; k++) {
                all.add("sheet " + s + " at " + k + " is " + x.item(0, k));
            }
            x.lay(0, 0, 0);
            all.add("its sort is " + x.copy(s, 0, 1, 0, 0) + ", " + x.mark(s, 0, NONE));
        }
    }
}
