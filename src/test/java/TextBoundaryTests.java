/** The boundary cases of "4 TEXTS" and of the calls about them, a sentence of the document at a time. */
public final class TextBoundaryTests extends Checks {

    /** The FAULT of such a tape stands at a place. */
    private static void fault(String tape, int place) {
        CorkBreaks x = new CorkBreaks();
        due("text of '" + tape + "'", text(x, tape), -100 - place);
        due("texts behind '" + tape + "'", x.count(4), 0);
    }

    /** Such a tape is a TEXT with so many NUMBERS and NAMES. */
    private static void good(String tape, int operands) {
        CorkBreaks x = new CorkBreaks();
        due("text of '" + tape + "'", text(x, tape), 0);
        due("operands of '" + tape + "'", x.textTold(0, 1), operands);
    }

    private static void gives(String e, int want) {
        CorkBreaks x = new CorkBreaks();
        due("text of 'fee " + e + "'", text(x, "fee " + e), 0);
        due(e, x.fee(), want);
    }

    private static String times(String s, int many) {
        return s.repeat(many);
    }

    // ---- TEXTS and THE TAPE

    private static void fourteen() {
        said("TEXTS, 14 at most, numbered from 0; Promise 29: FULL");
        CorkBreaks x = withBottle(0, 0, 0);
        for (int k = 0; k < 14; k++) {
            due("texts", x.count(4), k);
            due("a text", text(x, "fine " + k), k);
        }
        due("the fifteenth", text(x, "fine 99"), FULL);
        due("the fifteenth of another key", text(x, "fee 99"), FULL);
        due("texts", x.count(4), 14);
        due("the last that came counts", x.fine(0), 13);
        due("the last that came counts", x.why(2), 13);
        due("fee has none", x.why(1), NONE);
        said("Promise 29: -100 less the place of its FAULT; FULL: the FAULT stands first");
        due("a fault with 14 there", text(x, "fine 99 9"), -108);
        due("an empty tape with 14 there", x.text(), -100);
    }

    private static void tape() {
        said("THE TAPE (96 bytes at most); Promise 27: how many it has. FULL: it would have more than 96");
        CorkBreaks x = new CorkBreaks();
        for (int k = 1; k <= 8; k++) {
            due("feed", x.feed(0, 0, 0), 12 * k);
        }
        due("with 96 there", x.feed(0, 0, 0), FULL);
        due("bytes", x.count(6), 96);
        for (int size : new int[] {95, 85}) {
            x.trim(size);
            due("with " + size + " there", x.feed(0, 0, 0), FULL);
            due("bytes", x.count(6), size);
        }
        x.trim(84);
        due("with 84 there", x.feed(0, 0, 0), 96);
        x.trim(0);
        due("with none there", x.feed(0, 0, 0), 12);
        said("Promise 27: Twelve bytes come to THE TAPE, the highest of each number first");
        x.trim(0);
        due("feed", x.feed(0x66656520, 0x31322d33, 0x2b343536), 12);
        due("'fee 12-3+456' is one", x.text(), 0);
        due("its fee", x.fee(), 12 - 3 + 456);
        due("feed", x.feed(0x66656520, 0x202020ff, 0x80000000), 12);
        due("the byte 255 at 7 is a sign", x.text(), -107);
        due("feed", x.feed(0x66656520, 0x31202020, 0x202020ff), 12);
        due("the last byte is at 11", x.text(), -111);
        said("Promise 28: THE TAPE keeps its first n bytes: n. BAD");
        range(CorkBreaks::new, 0, 0, CorkBreaks::trim);
        range(() -> fed(1), 0, 12, CorkBreaks::trim);
        range(() -> fed(8), 0, 96, CorkBreaks::trim);
        x = fed(1);
        due("the first five", x.trim(5), 5);
        due("no more than are there", x.trim(6), BAD);
        due("bytes", x.count(6), 5);
        due("what is fed comes behind them", x.feed(0, 0, 0), 17);
        x = new CorkBreaks();
        put(x, "fee 12");
        due("the last digit goes", x.trim(5), 5);
        due("text", x.text(), 0);
        due("fee", x.fee(), 1);
    }

    private static CorkBreaks fed(int many) {
        CorkBreaks x = new CorkBreaks();
        for (int k = 0; k < many; k++) {
            x.feed(0, 0, 0);
        }
        return x;
    }

    private static void usedUp() {
        said("an act that reads it uses it up, whatever it answers");
        CorkBreaks x = new CorkBreaks();
        for (int k = 0; k < 16; k++) {
            put(x, "fee 1");
            due("taken, or full", x.text(), k < 14 ? k : FULL);
            due("bytes", x.count(6), 0);
            put(x, "fee 1 1");
            due("a fault", x.text(), -106);
            due("bytes", x.count(6), 0);
            due("what was read is gone", x.text(), -100);
        }
    }

    private static void longest() {
        said("THE TAPE (96 bytes at most): a TEXT of 96 bytes");
        String sum = "fee 10" + times("+1", 45);
        due("bytes", sum.length(), 96);
        gives(sum.substring(4), 55);
        good("hard " + times("1+", 45) + "1", 46);
        fault("fee 1" + times("+1", 45) + "+", 96);
        fault("fee 1" + times("+1", 45) + "?", 95);
        good("fee 1" + times(" ", 91), 1);
        good(times(" ", 91) + "fee 1", 1);
        fault(times(" ", 96), 96);
        fault("fee" + times(" ", 93), 96);
        good("fee " + times("!!!!!!!!(((((((1)))))))&", 3) + times("!", 8) + "((1))", 4);
    }

    // ---- the grammar

    private static void keys() {
        said("KEY: hard | fee | fine");
        String[] keys = {"hard", "fee", "fine"};
        for (int k = 0; k < 3; k++) {
            CorkBreaks x = new CorkBreaks();
            due("text of " + keys[k], text(x, keys[k] + " 1"), 0);
            due("its key", x.textTold(0, 0), k);
            for (int n = 0; n < 3; n++) {
                due("why " + n, x.why(n), n == k ? 0 : NONE);
            }
            fault(keys[k], keys[k].length());
            fault(keys[k].substring(1) + " 1", 0);
            fault(keys[k].substring(0, keys[k].length() - 1) + " 1", 0);
            fault(keys[k] + "s 1", 0);
            fault("a" + keys[k] + " 1", 0);
            fault("a" + keys[k].substring(1) + " 1", 0);
            fault(keys[k].substring(0, keys[k].length() - 1) + "z 1", 0);
            fault(keys[k].toUpperCase() + " 1", 0);
            fault(keys[k] + " " + keys[k] + " 1", keys[k].length() + 1);
        }
        fault("1", 0);
        fault("s", 0);
        fault("(hard 1)", 0);
        fault("fix 1", 0);
        fault("fees 1", 0);
    }

    private static void grammar() {
        said("OR: AND { | AND }; AND: TEST { & TEST }; SUM: TERM { (+ | -) TERM }; TERM: PIECE { (* | /) PIECE }");
        for (String sign : "| & + - * /".split(" ")) {
            good("fee 1" + sign + "2", 2);
            good("fee 1" + sign + "2" + sign + "3" + sign + "4", 4);
            fault("fee 1" + sign, 6);
            fault("fee 1 " + sign + " ", 8);
            fault("fee " + sign + "1", 4);
            fault("fee 1" + sign + sign + "1", 6);
            fault("fee 1" + sign + ")", 6);
        }
        said("TEST: SUM [ (< | = | >) SUM ]");
        for (String sign : "< = >".split(" ")) {
            good("fee 1" + sign + "2", 2);
            fault("fee 1" + sign, 6);
            fault("fee " + sign + "1", 4);
            for (String next : "< = >".split(" ")) {
                fault("fee 1" + sign + "2" + next + "3", 7);
                fault("fee 1" + sign + "2+3" + next + "3", 9);
                good("fee 1" + sign + "(2" + next + "3)", 3);
                good("fee 1" + sign + "2&2" + next + "3", 4);
                good("fee 1" + sign + "2|2" + next + "3", 4);
            }
        }
        said("PIECE: NUMBER | NAME | ! PIECE | ( E )");
        fault("fee ()", 5);
        fault("fee (1", 6);
        fault("fee 1)", 5);
        fault("fee (1))", 7);
        fault("fee )", 4);
        fault("fee !", 5);
        fault("fee !)", 5);
        fault("fee 1!", 5);
        fault("fee 1(2)", 5);
        fault("fee (1)(2)", 7);
        fault("fee (1)2", 7);
        fault("fee (1)!2", 7);
        fault("fee -1", 4);
        fault("fee [1]", 4);
        good("fee (1)", 1);
        good("fee !1", 1);
        good("fee !(1)", 1);
        good("fee (!1)", 1);
        for (String sign : "| & < = > + - * /".split(" ")) {
            good("fee (1" + sign + "2)", 2);
            good("fee !(1" + sign + "2)" + sign + "3", 3);
        }
        said("E, the loosest first");
        gives("0&0|1", 1);
        gives("1|0&0", 1);
        gives("1<2&0", 0);
        gives("0&1<2", 0);
        gives("1<1+1", 1);
        gives("2+1<3", 0);
        gives("1+2*3", 7);
        gives("8-6/2", 5);
        gives("!0*5", 5);
        gives("!0+5", 6);
        gives("!0<1", 0);
    }

    private static void numbers() {
        said("NUMBER (1 to 4 digits)");
        gives("0", 0);
        gives("9", 9);
        gives("9999", 9999);
        gives("0000", 0);
        gives("0009", 9);
        fault("fee 10000", 4);
        fault("fee 00000", 4);
        fault("fee 00001", 4);
        fault("fee 123456", 4);
        fault("fee 1+99999+1", 6);
        fault("fee (12345", 5);
        fault("fee " + times("1", 92), 4);
        good("fee " + times("1234+", 18) + "1", 19);
    }

    private static void names() {
        said("NAMES, each one letter: of hard s, y, l; of fee c, y; of fine y, l");
        String[] keys = {"hard", "fee", "fine"};
        String[] names = {"syl", "cy", "yl"};
        for (int k = 0; k < 3; k++) {
            int at = keys[k].length() + 1;
            for (char c = 'a'; c <= 'z'; c++) {
                if (names[k].indexOf(c) >= 0) {
                    good(keys[k] + " " + c, 1);
                } else {
                    fault(keys[k] + " " + c, at);
                }
                fault(keys[k] + " " + c + names[k].charAt(0), at);
                fault(keys[k] + " " + names[k].charAt(0) + c, at);
                fault(keys[k] + " " + Character.toUpperCase(c), at);
            }
            fault(keys[k] + " " + names[k], at);
        }
        said("of hard s STRENGTH, y YEARS, l the number of the LAYER");
        CorkBreaks x = withBottle(0, 99, 0);
        text(x, "hard l");
        for (int layer = 0; layer < 6; layer++) {
            due("l", x.layer(0, layer, 2), layer);
        }
        text(x, "hard y");
        due("y", x.layer(0, 0, 2), 99);
        text(x, "hard s");
        x.sets(0, 5, 0, 24);
        due("s", x.layer(0, 5, 2), 24);
        said("of fee c CRUMBS of all, y THE YEAR (without a TEXT: CRUMBS of all)");
        due("without a text", x.fee(), 0);
        x.push(0);
        x.bottle(0, 0, 0);
        x.push(1);
        due("without a text", x.fee(), 12);
        text(x, "fee c");
        due("c", x.fee(), 12);
        text(x, "fee y");
        due("y at first", x.fee(), 0);
        for (int k = 0; k < 100; k++) {
            x.years(100);
        }
        due("y at last", x.fee(), 9999);
        said("of fine y YEARS, l LEFT (without a TEXT: LEFT)");
        due("without a text", x.fine(0), 0);
        x.bottle(0, 77, 0);
        due("without a text", x.fine(2), 6);
        text(x, "fine y");
        due("y", x.fine(2), 77);
        text(x, "fine l");
        due("l", x.fine(2), 6);
        due("l of none left", x.fine(0), 0);
        due("the fees of no bottles", new CorkBreaks().fee(), 0);
    }

    // ---- words, signs, blanks, FAULTS

    private static void words() {
        said("Between words and signs, and at the ends, there may be blanks (byte 32)");
        good("  fee  (  1  +  c  )  *  !  y  ", 3);
        good("fee(1)", 1);
        good("fee!1", 1);
        good("fee 1", 1);
        good("fee 1&c", 2);
        for (char c : new char[] {0, 9, 10, 13, 31, '"', 127, 128, 160, 255}) {
            fault("fee 1" + c, 5);
            fault("fee" + c + "1", 3);
            fault(c + "fee 1", 0);
        }
        said("a word right behind another one needs one");
        fault("fee1", 3);
        fault("hard12+s", 4);
        fault("fee 1c", 5);
        fault("fee c1", 5);
        fault("fee 1 c", 6);
        fault("fee c 1", 6);
        fault("fee 12 34", 7);
        fault("feec", 0);
        fault("1fee 1", 0);
        said("A word is a row of letters a .. z, or of digits, as long as it goes; any other byte is a sign by itself");
        for (char c : new char[] {'a' - 1, 'z' + 1, '0' - 1, '9' + 1, 'A', 'Z', '_', '.', ','}) {
            int place = c == '/' ? 6 : 5;
            fault("fee c" + c, place);
            fault("fee 1" + c, place);
            fault("fee " + c + c, 4);
        }
        fault("fee (1)a", 7);
        fault("fee (1)z", 7);
        fault("fee (1)0", 7);
        fault("fee (1)9", 7);
    }

    private static void faults() {
        said("FAULT: the first byte of the first word or sign with which no TEXT goes on");
        fault("fee 1 ?  ?", 6);
        fault("fee 1 + cc + cc", 8);
        fault("fee 12345 12345", 4);
        fault("fee (1 + 2", 10);
        fault("fee (1 + 2 ?", 11);
        fault("fee 1   2", 8);
        said("the end (the place behind the last byte), if it comes too soon");
        fault("", 0);
        fault(" ", 1);
        fault("fee", 3);
        fault("fee ", 4);
        fault("fee  ", 5);
        fault("fee 1+", 6);
        fault("fee 1+  ", 8);
        fault("fee (1  ", 8);
        fault("fee !", 5);
        said("the ninth ( that would be open within others");
        gives(times("(", 8) + "7" + times(")", 8), 7);
        fault("fee " + times("(", 9) + "7" + times(")", 9), 12);
        fault("fee " + times("(", 10), 12);
        fault("fee " + times("(", 8), 12);
        fault("fee " + times("(", 8) + "7" + times(")", 9), 21);
        gives(times("(", 8) + "1" + times(")", 8) + "+" + times("(", 8) + "2" + times(")", 8), 3);
        gives("(" + times("(", 7) + "1" + times(")", 7) + "+" + times("(", 7) + "2" + times(")", 7) + ")", 3);
        fault("fee (" + times("(", 7) + "1" + times(")", 7) + "+" + times("(", 8) + "2", 28);
        gives(times("(1)+", 12) + "0", 12);
        said("the ninth ! likewise");
        gives(times("!", 8) + "7", 1);
        gives(times("!", 8) + "0", 0);
        fault("fee " + times("!", 9) + "7", 12);
        fault("fee " + times("! ", 9) + "7", 20);
        fault("fee " + times("!", 8), 12);
        gives(times("!", 8) + "1+" + times("!", 8) + "2", 2);
        gives(times("!1+", 12) + "!0", 1);
        gives("!" + "(" + times("!", 7) + "1&" + times("!", 7) + "1)", 1);
        fault("fee !(" + times("!", 8) + "1)", 13);
        fault("fee " + times("!", 8) + "(!1)", 13);
        gives(times("!", 8) + "(1)+!0", 2);
        said("the ninth ( .., the ninth ! .., each by itself");
        gives(times("!(", 8) + "7" + times(")", 8), 1);
        gives(times("(", 8) + times("!", 8) + "7" + times(")", 8), 1);
        gives(times("!", 8) + times("(", 8) + "7" + times(")", 8), 1);
        fault("fee " + times("!(", 8) + "!7", 20);
        fault("fee " + times("!(", 8) + "(7", 20);
        said("FAULT: what was open with a refused TEXT is not open with the next");
        CorkBreaks x = new CorkBreaks();
        due("eight brackets", text(x, "fee " + times("(", 8)), -112);
        due("eight brackets again", text(x, "fee " + times("(", 8) + "7" + times(")", 8)), 0);
        due("eight nots", text(x, "fee " + times("!", 8)), -112);
        due("eight nots again", text(x, "fee " + times("!", 8) + "7"), 1);
        due("a word at the end", text(x, "fee 1 c"), -106);
        due("a word at the start", text(x, "fee c"), 2);
        due("numbers and names of refused ones do not count", x.textTold(2, 1), 1);
    }

    // ---- what a TEXT gives

    private static void values() {
        said("Ints wrap");
        // 8192 * 8192 * 32 is 2 to the 31st.
        gives("8192*8192*32", MIN);
        gives("8192*8192*32-1", MAX);
        gives("8192*8192*32-1+1", MIN);
        gives("0-8192*8192*32", MIN);
        gives("8192*8192*64", 0);
        gives("9999*9999*9999", -1027349969);
        gives("(8192*8192*32)/(0-1)", MIN);
        gives("8192*8192*32<0", 1);
        gives("8192*8192*32-1>0", 1);
        said("/ is 0 by 0; / cuts towards 0");
        gives("7/0", 0);
        gives("0/0", 0);
        gives("(0-7)/0", 0);
        gives("1/(2-2)+5", 5);
        gives("7/2", 3);
        gives("(0-7)/2", -3);
        gives("7/(0-2)", -3);
        gives("(0-7)/(0-2)", 3);
        gives("(0-1)/2", 0);
        gives("1/2", 0);
        gives("7/7", 1);
        gives("0/7", 0);
        said("tests, & | ! give 1 or 0 (what is not 0 is true)");
        gives("2<3", 1);
        gives("3<3", 0);
        gives("4<3", 0);
        gives("2>3", 0);
        gives("3>3", 0);
        gives("4>3", 1);
        gives("2=3", 0);
        gives("3=3", 1);
        gives("4=3", 0);
        gives("5&7", 1);
        gives("5&0", 0);
        gives("0&7", 0);
        gives("0&0", 0);
        gives("5|7", 1);
        gives("5|0", 1);
        gives("0|7", 1);
        gives("0|0", 0);
        gives("(0-1)&(0-2)", 1);
        gives("0|(0-2)", 1);
        gives("2&4", 1);
        gives("!0", 1);
        gives("!1", 0);
        gives("!9", 0);
        gives("!(0-1)", 0);
        gives("!!9", 1);
        said("rows of signs are worked out from the left");
        gives("9-3-2", 4);
        gives("99/9/2", 5);
        gives("9/2*2", 8);
        gives("2*9/4", 4);
        gives("9-3+2", 8);
    }

    private static void lastTold() {
        said("Of a KEY that TEXT counts that was told last; Promise 31: why(key): The TEXT that counts for a KEY. BAD; NONE");
        CorkBreaks x = withBottle(0, 0, 0);
        range(CorkBreaks::new, 0, 2, CorkBreaks::why);
        String[] keys = {"hard", "fee", "fine"};
        int[] counts = {NONE, NONE, NONE};
        int[] order = {2, 0, 0, 1, 2, 1, 0};
        for (int k = 0; k < order.length; k++) {
            due("text", text(x, keys[order[k]] + " " + (40 + k)), k);
            counts[order[k]] = k;
            for (int key = 0; key < 3; key++) {
                due("why " + key, x.why(key), counts[key]);
            }
            due("hard", x.layer(0, 0, 2), counts[0] == NONE ? 12 : 40 + counts[0]);
            due("fee", x.fee(), counts[1] == NONE ? 0 : 40 + counts[1]);
            due("fine", x.fine(0), counts[2] == NONE ? 6 : 40 + counts[2]);
        }
        due("one that is refused does not count", text(x, "fee 1 1"), -106);
        due("one that is refused does not count", x.fee(), 45);
        said("Promise 30: textTold(text, what): what 0 KEY, 1 how many NUMBERS and NAMES it has. BAD");
        range(Checks::busy, 0, 1, (y, v) -> y.textTold(v, 0));
        range(Checks::busy, 0, 1, (y, v) -> y.textTold(0, v));
        due("of no texts", new CorkBreaks().textTold(0, 0), BAD);
        due("the last", x.textTold(6, 0), 0);
        due("behind the last", x.textTold(7, 0), BAD);
        good("hard s", 1);
        good("hard !(7)", 1);
        good("hard s+s+12*l", 4);
        said("Promise 26: fine(bottle): BAD");
        range(Checks::busy, 0, 3, CorkBreaks::fine);
        due("of no bottles", new CorkBreaks().fine(0), BAD);
    }

    private static void kept() {
        said("AN IMAGE keeps all but ..: TEXTS too, and which of them count");
        CorkBreaks x = new CorkBreaks();
        text(x, "fee 1");
        x.keep();
        for (int k = 1; k < 14; k++) {
            due("text", text(x, "fee " + (k + 1)), k);
        }
        due("full", text(x, "fee 99"), FULL);
        due("back", x.back(), 0);
        due("texts", x.count(4), 1);
        due("the first counts again", x.fee(), 1);
        due("the second is none", x.textTold(1, 0), BAD);
        due("the second comes anew", text(x, "fine 5"), 1);
        due("its key", x.textTold(1, 0), 2);
        x.back();
        due("no fine counts", x.why(2), NONE);
    }

    public static void main(String[] args) {
        fourteen();
        tape();
        usedUp();
        longest();
        keys();
        grammar();
        numbers();
        names();
        words();
        faults();
        values();
        lastTold();
        kept();
        ends();
    }
}
