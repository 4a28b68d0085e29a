import java.util.List;

/** A refused call: which of several refusals comes first, and that it changes nothing but what is told; and what is only thought. */
public final class RefusalTests extends Checks {

    private static final int AWAY = 4;

    /** An object that was asked is the same as one that was not. */
    private static void same(String what, CorkBreaks asked, CorkBreaks other) {
        List<String> one = seen(asked);
        List<String> two = seen(other);
        String first = "";
        for (int k = 0; k < Math.min(one.size(), two.size()) && first.isEmpty(); k++) {
            first = one.get(k).equals(two.get(k)) ? "" : " (" + one.get(k) + ", was: " + two.get(k) + ")";
        }
        holds(what + " changes nothing" + first, one.equals(two));
    }

    private static void refused(int want, Setup setup, String what, Call call) {
        CorkBreaks x = setup.made();
        due(what, call.on(x), want);
        due(what + ", asked again", call.on(x), want);
        same(what, x, setup.made());
    }

    private static void refused(int want, String what, Call call) {
        refused(want, Checks::busy, what, call);
    }

    // ---- the states in which calls are refused

    private static CorkBreaks ofEight() {
        CorkBreaks x = busy();
        due("four come", x.deal(8), 4);
        return x;
    }

    private static CorkBreaks fullOfTexts() {
        CorkBreaks x = busy();
        x.trim(0);
        for (int k = 2; k < 14; k++) {
            due("text", text(x, "fee " + k), k);
        }
        return x;
    }

    private static CorkBreaks longTape() {
        CorkBreaks x = busy();
        for (int k = 0; k < 7; k++) {
            due("feed", x.feed(0x20202020, 0x20202020, 0x20202020), 21 + 12 * k);
        }
        return x;
    }

    private static CorkBreaks manyWait() {
        CorkBreaks x = busy();
        for (int k = 3; k <= 60; k++) {
            due("tell", x.tell(k), k);
        }
        return x;
    }

    private static CorkBreaks withoutBottles() {
        CorkBreaks x = new CorkBreaks();
        x.sheet(0, 0, 1);
        x.feed(0, 0, 0);
        x.tell(5);
        return x;
    }

    // ---- refusals, promise by promise, in the order in which they stand there

    private static void ofBottles() {
        said("Promise 2: BAD; FULL");
        refused(FULL, RefusalTests::ofEight, "a ninth", x -> x.bottle(0, 0, 0));
        refused(BAD, RefusalTests::ofEight, "a ninth of no kind", x -> x.bottle(6, 0, 0));
        refused(BAD, RefusalTests::ofEight, "a ninth of no years", x -> x.bottle(0, 100, 0));
        refused(BAD, RefusalTests::ofEight, "a ninth that lies twice", x -> x.bottle(0, 0, 2));
        refused(BAD, "of no kind", x -> x.bottle(-1, 0, 0));
        refused(BAD, "of no years", x -> x.bottle(0, -1, 0));
        refused(BAD, "lying less than not", x -> x.bottle(0, 0, -1));
        said("Promise 3: BAD");
        refused(BAD, "told", x -> x.told(AWAY, 0));
        refused(BAD, "told", x -> x.told(0, 8));
        said("Promise 4: BAD");
        refused(BAD, "layer", x -> x.layer(AWAY, 0, 0));
        refused(BAD, "layer", x -> x.layer(0, 6, 0));
        refused(BAD, "layer", x -> x.layer(0, 0, 4));
        said("Promise 5: BAD");
        refused(BAD, "sets", x -> x.sets(AWAY, 0, 0, 1));
        refused(BAD, "sets", x -> x.sets(0, 6, 0, 1));
        refused(BAD, "sets", x -> x.sets(0, 0, 2, 1));
        refused(BAD, "sets", x -> x.sets(0, 0, 0, 25));
        refused(BAD, "sets", x -> x.sets(0, 0, 1, 25));
        refused(BAD, "sets", x -> x.sets(0, 0, 1, -1));
        said("Promise 6: BAD: bottle, kind; KIND");
        refused(BAD, "as", x -> x.as(AWAY, 0));
        refused(BAD, "as", x -> x.as(AWAY, 5));
        refused(BAD, "as one of no kind", x -> x.as(0, 6));
        refused(KIND, "as", x -> x.as(0, 5));
        said("Promise 7: BAD");
        refused(BAD, "turns", x -> x.turns(AWAY, 0));
        refused(BAD, "turns", x -> x.turns(0, 6));
        said("Promise 8: BAD");
        refused(BAD, "set", x -> x.set(AWAY, 1, 1));
        refused(BAD, "set", x -> x.set(0, 0, 1));
        refused(BAD, "set", x -> x.set(0, 3, 1));
        refused(BAD, "set", x -> x.set(0, 1, 100));
        refused(BAD, "set", x -> x.set(0, 2, 2));
    }

    private static void ofPulls() {
        said("Promise 9: BAD; NO: none is left");
        refused(NO, "pull", x -> x.pull(1, 1, 999));
        refused(BAD, "pull with none left, no depth", x -> x.pull(1, 0, 999));
        refused(BAD, "pull with none left, too deep", x -> x.pull(1, 7, 999));
        refused(BAD, "pull with none left, no force", x -> x.pull(1, 1, -1));
        refused(BAD, "pull with none left, too much force", x -> x.pull(1, 1, 1000));
        refused(BAD, "pull", x -> x.pull(AWAY, 1, 999));
        refused(BAD, "pull", x -> x.pull(0, 0, 999));
        refused(BAD, "pull", x -> x.pull(0, 1, 1000));
        said("Promise 10: BAD; NO: none is left");
        refused(NO, "push", x -> x.push(1));
        refused(BAD, "push", x -> x.push(AWAY));
        said("Promise 11: BAD; FULL: it is 3");
        refused(FULL, "warm", x -> x.warm(2));
        refused(BAD, "warm", x -> x.warm(AWAY));
        said("Promise 12: BAD");
        refused(BAD, "rule", x -> x.rule(2, 3));
        refused(BAD, "rule", x -> x.rule(-1, 3));
        refused(BAD, "rule", x -> x.rule(0, 101));
        refused(BAD, "rule", x -> x.rule(1, 6));
        said("Promise 13: BAD");
        refused(BAD, "deal", x -> x.deal(0));
        refused(BAD, "deal", x -> x.deal(9));
        refused(BAD, RefusalTests::ofEight, "deal without room", x -> x.deal(9));
        said("Promise 15: BAD");
        refused(BAD, "years", x -> x.years(0));
        refused(BAD, "years", x -> x.years(101));
        said("Promise 16: BAD");
        refused(BAD, "cellar", x -> x.cellar(4));
    }

    private static void ofThoughts() {
        said("Promise 17: BAD; NONE: none is left");
        refused(NONE, "tried", x -> x.tried(1, 1, 999, 0));
        refused(BAD, "tried with none left", x -> x.tried(1, 0, 999, 0));
        refused(BAD, "tried with none left", x -> x.tried(1, 1, 1000, 0));
        refused(BAD, "tried with none left", x -> x.tried(1, 1, 999, 2));
        refused(BAD, "tried", x -> x.tried(AWAY, 1, 999, 0));
        said("Promise 18: BAD; NONE: none is left");
        refused(NONE, "depth", x -> x.depth(1, 999, 0));
        refused(BAD, "depth with none left", x -> x.depth(1, 1000, 0));
        refused(BAD, "depth with none left", x -> x.depth(1, 999, 2));
        refused(BAD, "depth", x -> x.depth(AWAY, 999, 0));
        said("Promise 19: BAD; NONE: nothing comes");
        refused(NONE, "tree", x -> x.tree(0, 0, 0));
        refused(BAD, "tree with which nothing comes", x -> x.tree(0, 0, 2));
        refused(BAD, "tree with which nothing comes", x -> x.tree(0, -1, 0));
        refused(BAD, "tree of none left", x -> x.tree(1, 0, 2));
        refused(BAD, "tree", x -> x.tree(AWAY, 0, 0));
        said("Promise 20: BAD");
        refused(BAD, "behind", x -> x.behind(101, 0));
        refused(BAD, "behind", x -> x.behind(0, 2 + AWAY));
        said("Promise 21: BAD; NONE: nothing ever comes");
        refused(NONE, "when", x -> x.when(0, 0, 0));
        refused(BAD, "when nothing comes", x -> x.when(0, 0, 2));
        refused(BAD, "when nothing comes", x -> x.when(0, -1, 0));
        refused(BAD, "when", x -> x.when(AWAY, 0, 0));
        said("Promise 22: BAD; NONE: there is none");
        refused(NONE, "which", x -> x.which(0, 0, 0));
        refused(BAD, "which of none", x -> x.which(61, 0, 0));
        refused(BAD, "which of none", x -> x.which(0, -1, 0));
        refused(BAD, "which of none", x -> x.which(0, 0, 2));
        due("which of no bottles", withoutBottles().which(0, 0, 2), BAD);
        said("Promise 23: BAD; NONE: with one of both nothing comes");
        refused(NONE, "laid", x -> x.laid(0, 0, 0));
        refused(BAD, "laid with which nothing comes", x -> x.laid(0, 61, 0));
        refused(BAD, "laid with which nothing comes", x -> x.laid(0, 0, -1));
        refused(BAD, "laid", x -> x.laid(AWAY, 0, 0));
        said("Promise 24: BAD; NOTHING; NONE: there are no BOTTLES");
        refused(NOTHING, "old", x -> x.old(2, 0));
        refused(BAD, "old by a missing one", x -> x.old(2, 2));
        refused(BAD, "old", x -> x.old(4, 0));
        due("old by a missing one, of no bottles", withoutBottles().old(1, 0), NOTHING);
        due("old of no bottles", withoutBottles().old(0, 0), NONE);
        due("old of no bottles", withoutBottles().old(0, 2), BAD);
        due("old of no bottles, by a missing one", withoutBottles().old(1, 2), BAD);
        said("Promise 26: BAD");
        refused(BAD, "fine", x -> x.fine(AWAY));
    }

    private static void ofTexts() {
        said("Promise 27: FULL: it would have more than 96");
        refused(FULL, RefusalTests::longTape, "feed", x -> x.feed(0x31313131, 0x31313131, 0x31313131));
        said("Promise 28: BAD");
        refused(BAD, "trim", x -> x.trim(10));
        refused(BAD, "trim", x -> x.trim(-1));
        said("Promise 29: -100 less the place of its FAULT; FULL; changes nothing but the tape");
        CorkBreaks x = busy();
        x.trim(8);
        due("a fault", x.text(), -108);
        CorkBreaks y = busy();
        y.trim(0);
        same("a fault", x, y);
        x = fullOfTexts();
        put(x, "fee 7");
        due("one too many", x.text(), FULL);
        same("one too many", x, fullOfTexts());
        x = fullOfTexts();
        put(x, "fee 7+");
        due("a fault of one too many", x.text(), -106);
        same("a fault of one too many", x, fullOfTexts());
        said("Promise 30: BAD");
        refused(BAD, "textTold", z -> z.textTold(2, 0));
        refused(BAD, "textTold", z -> z.textTold(0, 2));
        said("Promise 31: BAD; NONE");
        refused(BAD, "why", z -> z.why(3));
        refused(NONE, "why", z -> z.why(1));
    }

    private static void ofSheets() {
        said("Promise 32: BAD: sheet, sort, n above 24; SIZE");
        refused(SIZE, "sheet", x -> x.sheet(0, 0, -1));
        refused(SIZE, "sheet", x -> x.sheet(1, 1, MIN));
        refused(BAD, "sheet of no size", x -> x.sheet(4, 0, -1));
        refused(BAD, "sheet of no size", x -> x.sheet(0, 2, -1));
        refused(BAD, "sheet of no size", x -> x.sheet(0, -2, -1));
        refused(BAD, "sheet", x -> x.sheet(0, 0, 25));
        refused(BAD, "sheet", x -> x.sheet(4, -1, 0));
        said("Promise 33: BAD: sheet; NOTHING; INDEX; KIND: NONE in a row of shorts; BAD: v of floats");
        refused(BAD, "mark", x -> x.mark(4, -1, NONE));
        refused(BAD, "mark", x -> x.mark(-1, 0, 0));
        refused(NOTHING, "mark", x -> x.mark(2, 0, 0));
        refused(NOTHING, "mark of no place", x -> x.mark(2, -1, NONE));
        refused(NOTHING, "mark of no float", x -> x.mark(2, 0, 100000));
        refused(INDEX, "mark", x -> x.mark(0, 7, 0));
        refused(INDEX, "mark of none in shorts", x -> x.mark(0, 7, NONE));
        refused(INDEX, "mark of no float", x -> x.mark(1, 3, 100000));
        refused(INDEX, "mark of no number", x -> x.mark(1, -1, NONE));
        refused(INDEX, "mark where no places are", x -> x.mark(3, 0, 0));
        refused(KIND, "mark", x -> x.mark(0, 0, NONE));
        refused(BAD, "mark", x -> x.mark(1, 0, 100000));
        refused(BAD, "mark", x -> x.mark(1, 0, -100000));
        said("Promise 34: BAD; NOTHING");
        refused(NOTHING, "pour", x -> x.pour(0, 2));
        refused(BAD, "pour of a missing one", x -> x.pour(AWAY, 2));
        refused(BAD, "pour", x -> x.pour(0, 4));
        refused(BAD, "pour", x -> x.pour(AWAY, 0));
        said("Promise 35: BAD; NOTHING; NONE: there is none");
        refused(NOTHING, "reads", x -> x.reads(0, 2));
        refused(BAD, "reads of a missing one", x -> x.reads(AWAY, 2));
        refused(BAD, "reads", x -> x.reads(0, 4));
        refused(NONE, "reads", x -> x.reads(0, 3));
        refused(BAD, "reads of no places", x -> x.reads(AWAY, 3));
        said("Promise 36: BAD; NOTHING; KIND: they are not of one sort; INDEX");
        refused(BAD, "copy to a missing one", x -> x.copy(4, 0, 2, 0, 1));
        refused(BAD, "copy from a missing one", x -> x.copy(2, 0, 4, 0, 1));
        refused(BAD, "copy of no place", x -> x.copy(0, -1, 4, 0, -1));
        refused(NOTHING, "copy from a missing one", x -> x.copy(2, -1, 0, -1, 1));
        refused(NOTHING, "copy to a missing one", x -> x.copy(1, 9, 2, 9, -1));
        refused(KIND, "copy", x -> x.copy(0, 0, 1, 0, 1));
        refused(KIND, "copy of no place", x -> x.copy(0, 9, 1, 0, 1));
        refused(KIND, "copy to no place", x -> x.copy(1, 0, 0, -1, 1));
        refused(KIND, "copy of less than none", x -> x.copy(1, 0, 0, 0, -1));
        refused(INDEX, "copy", x -> x.copy(0, 0, 0, 1, 7));
        refused(INDEX, "copy", x -> x.copy(0, 1, 0, 0, 7));
        refused(INDEX, "copy where no places are", x -> x.copy(0, 0, 3, 0, 1));
        refused(INDEX, "copy of less than none", x -> x.copy(0, 0, 0, 0, -1));
    }

    private static void ofSlots() {
        said("Promise 37: BAD: slot, thing, k; NOTHING: that SHEET is MISSING");
        refused(NOTHING, "lay", x -> x.lay(2, 2, 2));
        refused(BAD, "lay of a missing one", x -> x.lay(5, 2, 2));
        refused(BAD, "lay", x -> x.lay(-1, 0, 0));
        refused(BAD, "lay", x -> x.lay(2, 4, 0));
        refused(BAD, "lay", x -> x.lay(2, -1, 0));
        refused(BAD, "lay", x -> x.lay(2, 1, AWAY));
        refused(BAD, "lay", x -> x.lay(2, 2, 4));
        said("Promise 38: BAD; NOTHING; KIND");
        refused(BAD, "ask of nothing", x -> x.ask(3, 6));
        refused(BAD, "ask of a sheet", x -> x.ask(1, 6));
        refused(BAD, "ask", x -> x.ask(0, 6));
        refused(BAD, "ask", x -> x.ask(5, 0));
        refused(NOTHING, "ask", x -> x.ask(3, 0));
        refused(KIND, "ask of a sheet", x -> x.ask(1, 0));
        refused(KIND, "ask of a number", x -> x.ask(2, 0));
        refused(KIND, "ask", x -> x.ask(0, 2));
        said("Promise 39: BAD: slot; NOTHING; KIND: it is no SHEET; INDEX; KIND: NO NUMBER");
        refused(BAD, "item", x -> x.item(5, -1));
        refused(NOTHING, "item", x -> x.item(3, -1));
        refused(KIND, "item of a bottle", x -> x.item(0, -1));
        refused(KIND, "item of a number", x -> x.item(2, 99));
        refused(INDEX, "item", x -> x.item(1, 3));
        refused(KIND, "item", x -> x.item(1, 1));
        said("Promise 40: BAD: slot; NOTHING; KIND: it is no number; NO: n is 0");
        refused(BAD, "rest", x -> x.rest(5, 0));
        refused(NOTHING, "rest", x -> x.rest(3, 0));
        refused(KIND, "rest of a bottle", x -> x.rest(0, 0));
        refused(KIND, "rest of a sheet", x -> x.rest(1, 0));
        refused(NO, "rest", x -> x.rest(2, 0));
    }

    private static void ofRows() {
        said("Promise 41: FULL: 60 wait");
        refused(FULL, RefusalTests::manyWait, "tell", x -> x.tell(0));
        said("Promise 42: BAD; NO: there is no IMAGE; changes nothing but the numbers that wait");
        for (int n : new int[] {0, 31}) {
            CorkBreaks x = busy();
            due("check", x.check(n), BAD);
            CorkBreaks y = busy();
            due("what waits is right", y.check(1), 0);
            same("check", x, y);
        }
        CorkBreaks x = withoutBottles();
        due("check without an image", x.check(31), BAD);
        due("none wait", x.count(5), 0);
        x.tell(1);
        due("check without an image", x.check(1), NO);
        due("none wait", x.count(5), 0);
        due("there is none yet", x.back(), NO);
        due("the sheet is there", x.mark(0, 0, 1), 1);
        due("the tape is there", x.count(6), 12);
        said("Promise 44: NO: there is none");
        x = new CorkBreaks();
        x.deal(2);
        int z = x.count(7);
        due("back", x.back(), NO);
        due("bottles", x.count(0), 2);
        due("z", x.count(7), z);
        said("Promise 45: BAD");
        refused(BAD, "count", y -> y.count(8));
        refused(BAD, "count", y -> y.count(-1));
    }

    // ---- what changes nothing though it is not refused

    private static boolean isTaken(int answer) {
        return answer > BAD || answer < SIZE;
    }

    private static void thought(String what, Call call) {
        CorkBreaks x = busy();
        int answer = call.on(x);
        holds(what + " is not refused (" + answer + ")", isTaken(answer));
        due(what + ", asked again", call.on(x), answer);
        same(what, x, busy());
    }

    private static void onlyThought() {
        said("3: (All that follows is only thought: nothing changes.)");
        thought("tried", x -> x.tried(0, 2, 999, 0));
        thought("depth", x -> x.depth(0, 999, 0));
        thought("tree", x -> x.tree(0, 999, 0));
        thought("behind", x -> x.behind(100, 3));
        thought("when", x -> x.when(3, 999, 0));
        thought("which", x -> x.which(60, 999, 0));
        thought("laid", x -> x.laid(0, 60, 999));
        thought("old", x -> x.old(0, 1));
        thought("fee", CorkBreaks::fee);
        thought("fine", x -> x.fine(0));
        said("calls that only tell change nothing");
        thought("told", x -> x.told(0, 6));
        thought("layer", x -> x.layer(0, 0, 2));
        thought("as", x -> x.as(3, 1));
        thought("cellar", x -> x.cellar(2));
        thought("textTold", x -> x.textTold(1, 1));
        thought("why", x -> x.why(2));
        thought("reads", x -> x.reads(0, 0));
        thought("ask", x -> x.ask(0, 3));
        thought("item", x -> x.item(1, 2));
        thought("rest", x -> x.rest(2, 5));
        thought("count", x -> x.count(7));
        said("Promise 13, 15: without room, and at 9999, nothing changes");
        CorkBreaks x = ofEight();
        due("deal", x.deal(1), 0);
        same("deal", x, ofEight());
    }

    /** What is seen would not be worth much if a change could hide from it. */
    private static void sees(String what, Call call) {
        CorkBreaks x = busy();
        holds(what + " is not refused", isTaken(call.on(x)));
        holds(what + " is seen", !seen(x).equals(seen(busy())));
    }

    private static void allIsSeen() {
        said("what is seen of an object shows each change");
        sees("bottle", x -> x.bottle(0, 0, 0));
        sees("sets", x -> x.sets(3, 5, 0, 11));
        sees("sets", x -> x.sets(3, 5, 1, 20));
        sees("turns", x -> x.turns(1, 5));
        sees("set", x -> x.set(1, 1, 22));
        sees("set", x -> x.set(1, 2, 0));
        sees("pull", x -> x.pull(3, 1, 999));
        sees("push", x -> x.push(3));
        sees("warm", x -> x.warm(1));
        sees("rule", x -> x.rule(0, 51));
        sees("rule", x -> x.rule(1, 0));
        sees("deal", x -> x.deal(1));
        sees("seed", x -> x.seed(2));
        sees("years", x -> x.years(1));
        sees("feed", x -> x.feed(0, 0, 0));
        sees("trim", x -> x.trim(8));
        sees("text", CorkBreaks::text);
        sees("sheet", x -> x.sheet(0, 1, 7));
        sees("sheet", x -> x.sheet(2, 0, 0));
        sees("sheet", x -> x.sheet(3, 1, 0));
        sees("sheet", x -> x.sheet(3, -1, 0));
        sees("mark", x -> x.mark(0, 6, 4));
        sees("mark", x -> x.mark(1, 1, 0));
        sees("pour", x -> x.pour(3, 0));
        sees("copy", x -> x.copy(1, 1, 1, 2, 1));
        sees("lay", x -> x.lay(0, 1, 0));
        sees("lay", x -> x.lay(3, 3, 0));
        sees("lay", x -> x.lay(2, 3, -16));
        sees("lay", x -> x.lay(4, 2, 3));
        sees("tell", x -> x.tell(0));
        sees("check", x -> x.check(1));
        sees("keep", CorkBreaks::keep);
        sees("back", CorkBreaks::back);
    }

    public static void main(String[] args) {
        ofBottles();
        ofPulls();
        ofThoughts();
        ofTexts();
        ofSheets();
        ofSlots();
        ofRows();
        onlyThought();
        allIsSeen();
        ends();
    }
}
