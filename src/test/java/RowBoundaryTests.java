/** The boundary cases of "5 SHEETS" and of the calls about sheets, slots, rows and images, a sentence of the document at a time. */
public final class RowBoundaryTests extends Checks {

    /** Such places stand in a SHEET, and no more. */
    private static void places(String what, CorkBreaks x, int sheet, int... want) {
        due(what + ": lay", Math.min(x.lay(4, 2, sheet), 0), 0);
        for (int k = 0; k < want.length; k++) {
            due(what + ": place " + k, x.item(4, k), want[k]);
        }
        due(what + ": behind the last", x.item(4, want.length), INDEX);
        due(what + ": ahead of the first", x.item(4, -1), INDEX);
    }

    private static CorkBreaks withSheet(int sort, int... v) {
        CorkBreaks x = ofKinds();
        due("sheet", x.sheet(0, sort, v.length), v.length);
        for (int k = 0; k < v.length; k++) {
            due("mark", x.mark(0, k, v[k]), 1);
        }
        return x;
    }

    // ---- SHEETS

    private static void sheets() {
        said("SHEETS 0 .. 3 are rows .., or MISSING (at first)");
        CorkBreaks x = ofKinds();
        for (int k = 0; k < 4; k++) {
            due("mark", x.mark(k, 0, 0), NOTHING);
            due("pour", x.pour(0, k), NOTHING);
            due("reads", x.reads(0, k), NOTHING);
            due("old", x.old(k, 0), NOTHING);
            due("lay", x.lay(0, 2, k), NOTHING);
            due("copy", x.copy(k, 0, k, 0, 0), NOTHING);
        }
        said("Promise 32: sheet(sheet, sort, n): BAD: sheet, sort, n above 24");
        Setup busy = Checks::busy;
        range(busy, 0, 3, (y, v) -> y.sheet(v, 0, 1));
        range(busy, 0, 3, (y, v) -> y.sheet(v, -1, 1));
        range(busy, -1, 1, (y, v) -> y.sheet(0, v, 1));
        for (int sort = 0; sort < 2; sort++) {
            due("24", x.sheet(0, sort, 24), 24);
            due("the last place", x.mark(0, 23, 1), 1);
            due("behind it", x.mark(0, 24, 1), INDEX);
            due("25", x.sheet(0, sort, 25), BAD);
            due("far too many", x.sheet(0, sort, MAX), BAD);
            due("0", x.sheet(0, sort, 0), 0);
            due("no place", x.mark(0, 0, 1), INDEX);
        }
        said("Promise 32: SIZE: a number of places is below 0");
        for (int sort = 0; sort < 2; sort++) {
            due("-1", x.sheet(0, sort, -1), SIZE);
            due("the least int", x.sheet(0, sort, MIN), SIZE);
        }
        said("Promise 32: (sort -1: MISSING, n any): n (0)");
        for (int n : new int[] {0, 1, 24, 25, -1, MAX, MIN}) {
            x.sheet(0, 0, 2);
            due("missing with n " + n, x.sheet(0, -1, n), 0);
            due("missing", x.mark(0, 0, 0), NOTHING);
            due("missing again", x.sheet(0, -1, n), 0);
        }
    }

    private static void allNought() {
        said("Promise 32: A SHEET becomes a row of n places of a sort, all 0");
        for (int before = 0; before < 2; before++) {
            for (int sort = 0; sort < 2; sort++) {
                CorkBreaks x = withSheet(before, 7, 7, 7);
                due("anew, longer", x.sheet(0, sort, 5), 5);
                places("anew, longer", x, 0, 0, 0, 0, 0, 0);
                x.mark(0, 4, 9);
                due("anew, shorter", x.sheet(0, sort, 2), 2);
                places("anew, shorter", x, 0, 0, 0);
                x.sheet(0, -1, 0);
                due("missing between", x.sheet(0, sort, 5), 5);
                places("missing between", x, 0, 0, 0, 0, 0, 0);
                due("its sort", x.mark(0, 0, NONE), sort == 0 ? KIND : 1);
            }
        }
    }

    private static void marks() {
        said("Promise 33: mark(sheet, place, v): BAD: sheet");
        range(Checks::busy, 0, 3, (x, v) -> x.mark(v, 0, 0));
        said("Promise 33: INDEX");
        for (int sort = 0; sort < 2; sort++) {
            CorkBreaks x = withSheet(sort, 1, 2, 3);
            due("the first", x.mark(0, 0, 4), 1);
            due("the last", x.mark(0, 2, 5), 1);
            for (int place : new int[] {-1, 3, 24, MIN, MAX}) {
                due("at " + place, x.mark(0, place, 6), INDEX);
            }
            places("marked", x, 0, 4, 2, 5);
        }
        said("Promise 33: of shorts its lowest 16 bits");
        int[][] shorts = {{0, 0}, {1, 1}, {-1, -1}, {32767, 32767}, {32768, -32768}, {-32768, -32768}, {-32769, 32767}, {65535, -1}, {65536, 0},
            {65537, 1}, {-65536, 0}, {100000, -31072}, {MAX, -1}, {MIN, 0}, {NONE - 1, 13818}, {NONE + 1, 13820}, {BAD, 13823}};
        for (int[] s : shorts) {
            places("short of " + s[0], withSheet(0, s[0]), 0, s[1]);
        }
        said("Promise 33: KIND: NONE in a row of shorts");
        CorkBreaks x = withSheet(0, 5);
        due("none", x.mark(0, 0, NONE), KIND);
        places("it stays", x, 0, 5);
        said("Promise 33: of floats v, -99999 .. 99999; NONE: NO NUMBER; BAD: v of floats");
        range(() -> withSheet(1, 5), -99999, 99999, (y, v) -> y.mark(0, 0, v));
        x = withSheet(1, 5, 6);
        due("the most", x.mark(0, 0, 99999), 1);
        due("more", x.mark(0, 0, 100000), BAD);
        due("the least", x.mark(0, 1, -99999), 1);
        due("less", x.mark(0, 1, -100000), BAD);
        places("both", x, 0, 99999, -99999);
        due("right beside none", x.mark(0, 0, NONE + 1), BAD);
        due("right beside none", x.mark(0, 0, NONE - 1), BAD);
        due("none", x.mark(0, 0, NONE), 1);
        places("no number", x, 0, KIND, -99999);
        due("a number again", x.mark(0, 0, 0), 1);
        places("a number again", x, 0, 0, -99999);
    }

    private static void pours() {
        said("Promise 34: pour(bottle, sheet): BAD");
        range(Checks::busy, 0, 3, (x, v) -> x.pour(v, 0));
        range(Checks::busy, 0, 3, (x, v) -> x.pour(0, v));
        said("Promise 34: each held within 0 .. 24");
        int[][] held = {{0, 0}, {-1, 0}, {1, 1}, {23, 23}, {24, 24}, {25, 24}, {99999, 24}, {-99999, 0}};
        for (int[] h : held) {
            CorkBreaks x = withSheet(1, h[0]);
            due("how many are otherwise", x.pour(0, 0), 1);
            due("hold by " + h[0], x.layer(0, 0, 1), h[1]);
            due("strength stays", x.layer(0, 0, 0), 12);
            due("poured again", x.pour(0, 0), 0);
        }
        said("Promise 34: how many are otherwise then");
        CorkBreaks x = withSheet(0, 32767, 24, -32768, 0, 6, 7, 8, 9);
        due("all but the one of 6", x.pour(5, 0), 5);
        int[] hold = {24, 24, 0, 0, 6, 7};
        for (int k = 0; k < 6; k++) {
            due("hold of " + k, x.layer(5, k, 1), hold[k]);
            due("hold of another bottle", x.layer(4, k, 1), 6);
        }
        due("the same again", x.pour(5, 0), 0);
        said("Promise 34: NO NUMBER, and beyond the SHEET: it stays");
        x = withSheet(1, NONE, 9, NONE, NONE, 9);
        due("two of them", x.pour(0, 0), 2);
        int[] stays = {6, 9, 6, 6, 9, 6};
        for (int k = 0; k < 6; k++) {
            due("hold of " + k, x.layer(0, k, 1), stays[k]);
        }
        x.sheet(0, 0, 0);
        due("no places", x.pour(0, 0), 0);
        x.sheet(0, 0, 5);
        due("five of 0", x.pour(1, 0), 5);
        due("the sixth stays", x.layer(1, 5, 1), 6);
        x.sheet(0, 0, 6);
        due("the sixth", x.pour(1, 0), 1);
        due("the sixth", x.layer(1, 5, 1), 0);
        x.sheet(0, 1, 24);
        due("all six", x.pour(2, 0), 6);
        said("Promise 34: NOTHING");
        due("missing", x.pour(2, 1), NOTHING);
    }

    private static void readings() {
        said("Promise 35: reads(bottle, sheet): BAD");
        range(Checks::busy, 0, 3, (x, v) -> x.reads(v, 0));
        range(Checks::busy, 0, 3, (x, v) -> x.reads(0, v));
        said("Promise 35: The first place at which a SHEET is not STRENGTH of that LAYER. NONE: there is none");
        due("no places", withSheet(0).reads(0, 0), NONE);
        due("one alike", withSheet(0, 12).reads(0, 0), NONE);
        due("one more", withSheet(0, 13).reads(0, 0), 0);
        due("one less", withSheet(0, 11).reads(0, 0), 0);
        due("six alike", withSheet(0, 12, 12, 12, 12, 12, 12).reads(5, 0), NONE);
        due("the last of six", withSheet(0, 12, 12, 12, 12, 12, 0).reads(5, 0), 5);
        due("the first of two", withSheet(1, 12, 12, 0, 12, 0, 12).reads(5, 0), 2);
        due("bits that a short loses", withSheet(0, 65536 + 12).reads(0, 0), NONE);
        said("Promise 35: (of numbers alone)");
        due("no number ahead", withSheet(1, NONE, 12, 0).reads(0, 0), 2);
        due("no numbers", withSheet(1, NONE, NONE, NONE).reads(0, 0), NONE);
        said("Promise 35: (of places beyond 5 all numbers are not)");
        due("the seventh", withSheet(0, 12, 12, 12, 12, 12, 12, 12).reads(0, 0), 6);
        due("the seventh of 0", withSheet(0, 12, 12, 12, 12, 12, 12, 0).reads(0, 0), 6);
        int[] far = new int[24];
        for (int k = 0; k < 24; k++) {
            far[k] = k < 6 ? 12 : NONE;
        }
        due("no numbers beyond 5", withSheet(1, far).reads(0, 0), NONE);
        far[23] = 0;
        due("the last place", withSheet(1, far).reads(0, 0), 23);
        said("Promise 35: NOTHING");
        due("missing", ofKinds().reads(0, 0), NOTHING);
    }

    private static CorkBreaks fiveAndThree() {
        CorkBreaks x = withSheet(0, 1, 2, 3, 4, 5);
        x.sheet(1, 0, 3);
        x.sheet(2, 1, 3);
        return x;
    }

    private static void copies() {
        said("Promise 36: copy(from, place, to, at, many): BAD");
        range(Checks::busy, 0, 3, (x, v) -> x.copy(v, 0, 0, 0, 0));
        range(Checks::busy, 0, 3, (x, v) -> x.copy(0, 0, v, 0, 0));
        said("Promise 36: So many places of a SHEET come to another one: many");
        CorkBreaks x = fiveAndThree();
        due("three of five", x.copy(0, 2, 1, 0, 3), 3);
        places("three of five", x, 1, 3, 4, 5);
        due("one of them", x.copy(0, 0, 1, 2, 1), 1);
        places("one of them", x, 1, 3, 4, 1);
        places("they are still there", x, 0, 1, 2, 3, 4, 5);
        said("Promise 36: (or the same), as they were");
        due("on down", x.copy(0, 0, 0, 1, 4), 4);
        places("on down", x, 0, 1, 1, 2, 3, 4);
        due("on up", x.copy(0, 2, 0, 0, 3), 3);
        places("on up", x, 0, 2, 3, 4, 3, 4);
        due("on itself", x.copy(0, 0, 0, 0, 5), 5);
        places("on itself", x, 0, 2, 3, 4, 3, 4);
        said("Promise 36: INDEX: there is no such place");
        x = fiveAndThree();
        int[][] taken = {{5, 0, 0}, {0, 3, 0}, {5, 3, 0}, {4, 2, 1}, {2, 0, 3}};
        for (int[] c : taken) {
            due("from " + c[0] + " to " + c[1] + ", " + c[2], x.copy(0, c[0], 1, c[1], c[2]), c[2]);
        }
        x = fiveAndThree();
        int[][] index = {{6, 0, 0}, {-1, 0, 0}, {0, 4, 0}, {0, -1, 0}, {5, 0, 1}, {0, 3, 1}, {3, 0, 3}, {0, 1, 3}, {0, 0, 4}, {-1, 0, 1}, {0, -1, 1},
            {0, 0, -1}, {1, 1, -1}, {0, 0, MIN}, {0, 0, MAX}, {MAX, 0, 1}, {0, MAX, 1}, {MIN, 0, 1}, {0, MIN, 1}, {MAX, MAX, MAX}, {1, 0, MAX},
            {MIN, MIN, MIN}};
        for (int[] c : index) {
            due("from " + c[0] + " to " + c[1] + ", " + c[2], x.copy(0, c[0], 1, c[1], c[2]), INDEX);
        }
        places("nothing came", x, 1, 0, 0, 0);
        said("Promise 36: KIND: they are not of one sort");
        due("shorts to floats", x.copy(0, 0, 2, 0, 1), KIND);
        due("floats to shorts", x.copy(2, 0, 0, 0, 1), KIND);
        due("none of them", x.copy(2, 0, 0, 0, 0), KIND);
        said("Promise 36: NOTHING");
        due("from one that is missing", x.copy(3, 0, 0, 0, 0), NOTHING);
        due("to one that is missing", x.copy(0, 0, 3, 0, 0), NOTHING);
        due("from a missing one to itself", x.copy(3, 0, 3, 0, 0), NOTHING);
        said("Promise 36: NO NUMBER comes as it was");
        x.mark(2, 0, NONE);
        x.mark(2, 1, -7);
        due("floats", x.copy(2, 0, 2, 1, 2), 2);
        places("floats", x, 2, KIND, KIND, -7);
    }

    // ---- SLOTS

    private static void lays() {
        said("Promise 37: lay(slot, thing, k): BAD: slot, thing, k");
        range(Checks::busy, 0, 4, (x, v) -> x.lay(v, 0, 0));
        range(Checks::busy, 0, 3, (x, v) -> x.lay(0, v, 0));
        range(Checks::busy, 0, 3, (x, v) -> x.lay(0, 1, v));
        range(Checks::busy, 0, 3, (x, v) -> x.lay(0, 2, v));
        due("a bottle of none", new CorkBreaks().lay(0, 1, 0), BAD);
        said("Promise 37: thing 0 nothing, 3 the number k: any k");
        CorkBreaks x = new CorkBreaks();
        for (int k : new int[] {MIN, MAX, -1, 0, 9, NONE, BAD}) {
            due("nothing", x.lay(0, 0, k), 0);
            due("a number", x.lay(0, 3, k), 0);
            due("its rest", x.rest(0, MIN), k == MIN ? 0 : k);
            due("nothing", x.lay(0, 0, k), 3);
        }
        said("Promise 37: what it held (0 .. 3)");
        x = withSheet(0, 5, 6);
        int[] things = {0, 0, 1, 1, 2, 2, 3, 3, 1, 0, 2, 1, 3, 2, 0, 3, 0};
        for (int slot = 0; slot < 5; slot++) {
            int held = 0;
            for (int thing : things) {
                due("slot " + slot + " held", x.lay(slot, thing, 0), held);
                held = thing;
            }
        }
        said("Promise 37: NOTHING: that SHEET is MISSING");
        due("missing", x.lay(0, 2, 3), NOTHING);
        said("SLOTS 0 .. 4 each hold nothing (at first)");
        x = new CorkBreaks();
        for (int slot = 0; slot < 5; slot++) {
            due("ask", x.ask(slot, 0), NOTHING);
            due("item", x.item(slot, 0), NOTHING);
            due("rest", x.rest(slot, 1), NOTHING);
            due("held", x.lay(slot, 3, slot), 0);
        }
        for (int slot = 0; slot < 5; slot++) {
            due("each its own", x.rest(slot, 10), slot);
        }
    }

    private static void asItWas() {
        said("a BOTTLE (as it is then, for good)");
        CorkBreaks x = withBottle(3, 10, 0);
        x.keep();
        x.set(0, 1, 20);
        due("lay", x.lay(0, 1, 0), 0);
        x.turns(0, 2);
        x.set(0, 1, 99);
        x.years(3);
        due("as it was", x.ask(0, 3), 54);
        x.back();
        due("as it was, the image back", x.ask(0, 1), 54);
        CorkBreaks y = new CorkBreaks();
        y.keep();
        y.bottle(1, 3, 0);
        y.lay(2, 1, 0);
        due("no bottles", y.back(), 0);
        due("its bottle is no more", y.ask(2, 0), 10);
        said("a SHEET (a row of its own, as it was then)");
        x = withSheet(1, 4, NONE, 6);
        x.lay(0, 2, 0);
        x.lay(1, 2, 0);
        x.mark(0, 0, 9);
        x.mark(0, 1, 9);
        x.lay(1, 2, 0);
        x.sheet(0, 0, 1);
        int[] first = {4, KIND, 6, INDEX};
        int[] second = {9, 9, 6, INDEX};
        for (int k = 0; k < 4; k++) {
            due("as it was first", x.item(0, k), first[k]);
            due("as it was then", x.item(1, k), second[k]);
        }
        x.sheet(0, -1, 0);
        due("its sheet is missing", x.item(0, 2), 6);
    }

    private static void asks() {
        said("Promise 38: ask(slot, kind): KIND (0 .. 5). BAD");
        range(Checks::busy, 0, 4, (x, v) -> x.ask(v, 0));
        range(Checks::busy, 0, 5, (x, v) -> x.ask(0, v));
        said("Promise 38: WORTH of the BOTTLE .., taken for one of a KIND; KIND: not of that KIND, nor of one under it");
        String[] of = {"y.....", "yy....", "y.y...", "yy.y..", "y.y.y.", "y....y"};
        int[] worth = {99, 106, 0, 212, -6, 3};
        for (int k = 0; k < 6; k++) {
            CorkBreaks x = withBottle(k, 99, 0);
            x.lay(4, 1, 0);
            for (int n = 0; n < 6; n++) {
                due(k + " for " + n, x.ask(4, n), of[k].charAt(n) == 'y' ? worth[k] : KIND);
            }
        }
        said("Promise 38: NOTHING; KIND: it is no BOTTLE");
        CorkBreaks x = busy();
        for (int k = 0; k < 6; k++) {
            due("nothing", x.ask(3, k), NOTHING);
            due("a sheet", x.ask(1, k), KIND);
            due("a number", x.ask(2, k), KIND);
        }
    }

    private static void items() {
        said("Promise 39: item(slot, place): BAD: slot");
        range(Checks::busy, 0, 4, (x, v) -> x.item(v, 0));
        said("Promise 39: NOTHING; KIND: it is no SHEET; INDEX; KIND: NO NUMBER");
        CorkBreaks x = busy();
        int[] odd = {0, 1, 2, 3, -1, MIN, MAX};
        int[] want = {1, KIND, -4, INDEX, INDEX, INDEX, INDEX};
        for (int k = 0; k < odd.length; k++) {
            due("a sheet at " + odd[k], x.item(1, odd[k]), want[k]);
            due("a bottle at " + odd[k], x.item(0, odd[k]), KIND);
            due("a number at " + odd[k], x.item(2, odd[k]), KIND);
            due("nothing at " + odd[k], x.item(3, odd[k]), NOTHING);
        }
        x.lay(0, 2, 3);
        due("no places", x.item(0, 0), INDEX);
        x.sheet(0, 0, 24);
        x.mark(0, 23, 3);
        x.lay(0, 2, 0);
        due("the last of 24", x.item(0, 23), 3);
        due("behind it", x.item(0, 24), INDEX);
        said("a number that reads as NONE would is none in a row of floats alone");
        x.sheet(0, 0, 1);
        x.mark(0, 0, NONE + 65536);
        x.lay(0, 2, 0);
        due("its lowest 16 bits", x.item(0, 0), 13819);
    }

    private static int restOf(int number, int n) {
        CorkBreaks x = new CorkBreaks();
        x.lay(0, 3, number);
        return x.rest(0, n);
    }

    private static void rests() {
        said("Promise 40: rest(slot, n): BAD: slot");
        range(Checks::busy, 0, 4, (x, v) -> x.rest(v, 1));
        said("Promise 40: The rest of the number in a SLOT by n (/ cuts towards 0)");
        int[][] rests = {{17, 5, 2}, {-17, 5, -2}, {17, -5, 2}, {-17, -5, -2}, {0, 5, 0}, {4, 5, 4}, {5, 5, 0}, {6, 5, 1}, {7, 1, 0}, {7, -1, 0},
            {MIN, -1, 0}, {MIN, 1, 0}, {MIN, MIN, 0}, {MAX, MIN, MAX}, {MIN, MAX, -1}, {MAX, MAX, 0}, {NONE, MIN, NONE}};
        for (int[] r : rests) {
            due(r[0] + " by " + r[1], restOf(r[0], r[1]), r[2]);
        }
        said("Promise 40: NO: n is 0");
        due("by 0", restOf(17, 0), NO);
        due("0 by 0", restOf(0, 0), NO);
        said("Promise 40: NOTHING; KIND: it is no number");
        CorkBreaks x = busy();
        for (int n = 0; n < 2; n++) {
            due("nothing", x.rest(3, n), NOTHING);
            due("a bottle", x.rest(0, n), KIND);
            due("a sheet", x.rest(1, n), KIND);
        }
    }

    // ---- rows, images

    private static void tells() {
        said("Promise 41: One more number waits: how many. FULL: 60 wait");
        CorkBreaks x = new CorkBreaks();
        for (int k = 1; k <= 60; k++) {
            due("tell", x.tell(k % 2 == 0 ? MIN : NONE), k);
            due("wait", x.count(5), k);
        }
        due("one too many", x.tell(0), FULL);
        due("wait", x.count(5), 60);
        x.check(1);
        due("none wait", x.count(5), 0);
        due("the first again", x.tell(0), 1);
    }

    private static int checked(CorkBreaks x, int n, int... told) {
        for (int v : told) {
            x.tell(v);
        }
        int answer = x.check(n);
        due("none wait then", x.count(5), 0);
        return answer;
    }

    /** Damp years alone: HOLD is 1 less each year, STRENGTH too, by the last step. */
    private static CorkBreaks damp() {
        CorkBreaks x = withBottle(0, 0, 1);
        layers(x, 0, 0, 24, 24, 24, 24, 24, 24);
        x.sets(0, 5, 1, 24);
        x.rule(0, 100);
        return x;
    }

    private static int[] dampYears(int many) {
        int[] told = new int[2 * many];
        for (int k = 0; k < many; k++) {
            told[2 * k] = 143 - k;
            told[2 * k + 1] = Math.max(53 - k, 30);
        }
        return told;
    }

    private static void checks() {
        said("Promise 42: check(n): n (1 .. 30). BAD; NO: there is no IMAGE");
        range(Checks::busy, 1, 30, CorkBreaks::check);
        CorkBreaks none = new CorkBreaks();
        for (int n : new int[] {1, 30}) {
            due("no image", checked(none, n), NO);
            due("no image", checked(none, n, 0, 0), NO);
        }
        said("Promise 42: (none do then, whatever is answered)");
        due("no image and bad", checked(none, 31, 0, 0), BAD);
        CorkBreaks x = damp();
        x.keep();
        due("bad", checked(x, 0, 143, 53), BAD);
        due("what waited is gone", checked(x, 1), 1);
        due("right", checked(x, 1, 143, 53), 0);
        due("what waited is gone", checked(x, 1), 1);
        due("wrong", checked(x, 1, 143, 54), 2);
        due("what waited is gone", checked(x, 1, 143, 53), 0);
        said("Promise 42: 1 and how many stand right ahead of the first that is not (or is missing, or one too many)");
        int[] told = dampYears(30);
        for (int n : new int[] {1, 2, 29, 30}) {
            for (int at : new int[] {0, 1, 2 * n - 2, 2 * n - 1}) {
                int[] wrong = java.util.Arrays.copyOf(told, 2 * n);
                wrong[at]++;
                due(n + " years, place " + at + " is one more", checked(x, n, wrong), 1 + at);
                wrong[at] -= 2;
                due(n + " years, place " + at + " is one less", checked(x, n, wrong), 1 + at);
                due(n + " years, place " + at + " is missing", checked(x, n, java.util.Arrays.copyOf(told, at)), 1 + at);
            }
            due(n + " years", checked(x, n, java.util.Arrays.copyOf(told, 2 * n)), 0);
            if (n < 30) {
                due(n + " years, one too many", checked(x, n, java.util.Arrays.copyOf(told, 2 * n + 1)), 1 + 2 * n);
                due(n + " years, all too many", checked(x, n, told), 1 + 2 * n);
            }
        }
        due("no numbers", checked(x, 30), 1);
        said("Promise 42: what waited for an earlier check is not there for a later one");
        due("right", checked(x, 2, 143, 53, 142, 52), 0);
        due("one of four", checked(x, 2, 143), 2);
        due("right", checked(x, 2, 143, 53, 142, 52), 0);
        due("three of four", checked(x, 2, 143, 53, 142), 4);
        due("none of four", checked(x, 2), 1);
    }

    private static void checksByImage() {
        said("THE YEARS TOLD: of n YEARS, one behind the other, by THE IMAGE");
        CorkBreaks x = damp();
        x.keep();
        x.rule(0, 0);
        x.seed(77);
        x.bottle(1, 1, 1);
        x.push(0);
        due("by the image", checked(x, 2, 143, 53, 142, 52), 0);
        due("nothing changes", x.count(7), 77);
        due("nothing changes", x.told(0, 1), 0);
        due("again", checked(x, 2, 143, 53, 142, 52), 0);
        x.keep();
        due("another image", checked(x, 1, 143, 53), 1);
        CorkBreaks none = new CorkBreaks();
        none.keep();
        due("of no bottles", checked(none, 1, 0, 0), 0);
        due("of no bottles", checked(none, 1, 0, 1), 2);
        said("Promise 42: fewer, if THE YEAR would be above 9999");
        CorkBreaks late = damp();
        late.sets(0, 5, 1, 0);
        for (int k = 0; k < 99; k++) {
            late.years(100);
        }
        late.years(97);
        layers(late, 0, 0, 24, 24, 24, 24, 24, 24);
        for (int left = 2; left >= 0; left--) {
            late.keep();
            int[] told = {143 - 2 + left, 30, 142 - 2 + left, 30};
            told = java.util.Arrays.copyOf(told, 2 * left);
            due(left + " years are left, of 30", checked(late, 30, told), 0);
            due(left + " years are left, of 3", checked(late, 3, told), 0);
            due(left + " years are left, one too many", checked(late, 3, java.util.Arrays.copyOf(told, 2 * left + 1)), 1 + 2 * left);
            late.years(1);
        }
        due("the year", late.count(1), 9999);
    }

    private static void images() {
        said("Promise 43: AN IMAGE is kept: how many BOTTLES; Promise 44: NO: there is none");
        CorkBreaks x = new CorkBreaks();
        due("no image", x.back(), NO);
        due("of none", x.keep(), 0);
        due("back", x.back(), 0);
        x.deal(8);
        due("back to none", x.back(), 0);
        due("how many", x.count(0), 0);
        x.deal(8);
        due("of eight", x.keep(), 8);
        due("back", x.back(), 8);
        said("all can become as it is (again and again)");
        int[] kept = counts(x);
        int kind = x.told(7, 0);
        int lying = x.told(7, 2);
        int years = x.cellar(3);
        int strength = x.layer(7, 5, 0);
        for (int again = 0; again < 3; again++) {
            x.years(1 + again);
            x.push(again);
            x.warm(7);
            x.rule(0, again);
            x.rule(1, 3 + again);
            x.seed(again);
            x.set(7, 1, 98);
            x.set(7, 2, 1 - lying);
            x.turns(7, (kind + 1) % 6);
            x.sets(7, 5, 0, 24 - strength);
            x.sets(7, 5, 1, 7);
            due("back", x.back(), 8);
            for (int k = 0; k < 8; k++) {
                due("count " + k, x.count(k), kept[k]);
                due("left of " + k, x.told(k, 3), 6);
            }
            due("warm", x.told(7, 5), 0);
            due("crumbs", x.cellar(1), 0);
            due("kind, lying", x.told(7, 0) * 10 + x.told(7, 2), kind * 10 + lying);
            due("years", x.cellar(3), years);
            due("strength, hold", x.layer(7, 5, 0) * 100 + x.layer(7, 5, 1), strength * 100 + 6);
        }
        x.push(0);
        due("kept over", x.keep(), 8);
        x.push(1);
        due("back", x.back(), 8);
        due("the later image", x.cellar(2), 1);
        said("AN IMAGE keeps all but SHEETS, SLOTS, numbers that wait, THE TAPE");
        CorkBreaks y = busy();
        y.sheet(2, 0, 5);
        y.mark(1, 0, 2);
        y.lay(3, 3, 5);
        y.tell(9);
        y.feed(0, 0, 0);
        due("back", y.back(), 4);
        due("a sheet stays", y.mark(2, 4, 1), 1);
        due("a place stays", y.reads(0, 1), 0);
        due("a slot stays", y.rest(3, 10), 5);
        due("numbers wait", y.count(5), 3);
        due("the tape", y.count(6), 21);
        due("the texts go", y.count(4), 1);
        due("the year goes", y.count(1), 0);
        due("what came is back", y.told(1, 3), 6);
        due("its crumbs are gone", y.told(1, 4), 0);
        due("crumbs that were there already stay", y.told(2, 4), 3);
        due("it is cold", y.told(2, 5), 0);
    }

    private static int[] counts(CorkBreaks x) {
        int[] all = new int[8];
        for (int k = 0; k < 8; k++) {
            all[k] = x.count(k);
        }
        return all;
    }

    private static void countsOf() {
        said("Promise 45: count(what): 0 .. 7. BAD");
        range(CorkBreaks::new, 0, 7, CorkBreaks::count);
        range(Checks::busy, 0, 7, CorkBreaks::count);
        int[] atFirst = {0, 0, 50, 1, 0, 0, 0, 1};
        int[] busy = {4, 2, 50, 1, 2, 2, 9};
        CorkBreaks x = new CorkBreaks();
        CorkBreaks y = busy();
        Draws d = new Draws(1);
        for (int k = 0; k < 6; k++) {
            d.next(1);
        }
        for (int k = 0; k < 7; k++) {
            due("at first " + k, x.count(k), atFirst[k]);
            due("of busy " + k, y.count(k), busy[k]);
        }
        due("z at first", x.count(7), 1);
        due("z of busy", y.count(7), d.z);
    }

    public static void main(String[] args) {
        sheets();
        allNought();
        marks();
        pours();
        readings();
        copies();
        lays();
        asItWas();
        asks();
        items();
        rests();
        tells();
        checks();
        checksByImage();
        images();
        countsOf();
        ends();
    }
}
