/** The boundary cases of "2 A YEAR" and "3 (All that follows is only thought)" and of their calls, a sentence of the document at a time. */
public final class YearBoundaryTests extends Checks {

    // ---- 2 A YEAR

    private static void dampOrDry() {
        said("2 (1): it is damp, if its rest by 100 is below HUMID, else dry");
        for (int rest : new int[] {0, 1, 49, 50, 98, 99}) {
            int z = seedWith(d -> d.next(100) == rest);
            due("rest " + rest + ", HUMID the same", yearOf(z, rest), 0);
            due("rest " + rest + ", HUMID one more", yearOf(z, rest + 1), 1);
        }
    }

    private static int yearOf(int z, int humid) {
        CorkBreaks x = new CorkBreaks();
        x.seed(z);
        x.rule(0, humid);
        return x.years(1);
    }

    /** Six BOTTLES with such HOLD of LAYER 5 and STRENGTH of LAYER 0; the fifth lies otherwise, the sixth has 5 left. */
    private static CorkBreaks six(int lying, int... v) {
        CorkBreaks x = new CorkBreaks();
        for (int k = 0; k < 6; k++) {
            x.bottle(0, 0, k == 4 ? 1 - lying : lying);
        }
        due("one comes", x.pull(5, 1, 999), 1);
        for (int k = 0; k < 6; k++) {
            x.sets(k, 5, 1, v[k]);
            x.sets(k, 0, 0, v[k]);
        }
        // The last step of the year is to leave LAYER 0 of all alone.
        x.seed(seedWith(d -> d.next(1) + d.next(1) == 0 && d.next(6) != 0));
        x.rule(0, 100 * lying);
        return x;
    }

    private static void wears() {
        said("2 (2): in a damp one HOLD of LAYER 5 of those LYING is WEAR less (0 at least)");
        int[] v = {6, 5, 4, 0, 6, 6};
        int[] most = {1, 0, 0, 0, 6, 6};
        int[] one = {5, 4, 3, 0, 6, 6};
        for (int wear : new int[] {0, 1, 5}) {
            CorkBreaks x = six(1, v);
            x.rule(1, wear);
            due("damp", x.years(1), 1);
            for (int k = 0; k < 6; k++) {
                due("hold of " + k + ", WEAR " + wear, x.layer(k, 5, 1), wear == 0 ? v[k] : wear == 1 ? one[k] : most[k]);
                due("hold of the layer above", x.layer(k, 4, 1), 6);
                due("strength stays", x.layer(k, 0, 0), v[k]);
            }
        }
        said("2 (2): in a dry one STRENGTH of LAYER 0 of those that are not LYING is WEAR less (0 at least)");
        for (int wear : new int[] {0, 1, 5}) {
            CorkBreaks x = six(0, v);
            x.rule(1, wear);
            due("dry", x.years(1), 0);
            for (int k = 0; k < 6; k++) {
                due("strength of " + k + ", WEAR " + wear, x.layer(k, 0, 0), wear == 0 ? v[k] : wear == 1 ? one[k] : most[k]);
                due("hold stays", x.layer(k, 5, 1), v[k]);
            }
        }
    }

    private static void ages() {
        said("2 (2): BOTTLES by numbers with LEFT 6: YEARS is 1 more (99 at most)");
        CorkBreaks x = new CorkBreaks();
        int[] years = {0, 97, 98, 99, 7, 7};
        for (int y : years) {
            x.bottle(0, y, 0);
        }
        due("one comes of the fifth", x.pull(4, 1, 999), 1);
        x.push(5);
        int[][] then = {{1, 98, 99, 99, 7, 7}, {2, 99, 99, 99, 7, 7}, {3, 99, 99, 99, 7, 7}};
        for (int[] row : then) {
            due("a year", Math.min(x.years(1), 0), 0);
            for (int k = 0; k < 6; k++) {
                due("years of " + k, x.told(k, 1), row[k]);
            }
        }
    }

    private static void oneIsLess() {
        said("2 (3): of the BOTTLE that is the rest of the first by how many there are, STRENGTH of the LAYER .. by 6 is 1 less (0 at least)");
        for (int many : new int[] {1, 2, 8}) {
            for (int bottle : new int[] {0, many - 1}) {
                for (int layer : new int[] {0, 1, 5}) {
                    hit(many, bottle, layer);
                }
            }
        }
    }

    private static void hit(int many, int bottle, int layer) {
        int z = seedWith(d -> d.next(1) == 0 && d.next(many) == bottle && d.next(6) == layer);
        for (int strength : new int[] {24, 1, 0}) {
            CorkBreaks x = new CorkBreaks();
            for (int k = 0; k < many; k++) {
                x.bottle(0, 0, 1);
                layers(x, k, 0, strength, strength, strength, strength, strength, strength);
            }
            x.push(bottle);
            x.rule(1, 0);
            x.seed(z);
            x.years(1);
            for (int k = 0; k < 6 * many; k++) {
                boolean hit = k == 6 * bottle + layer;
                due("strength of " + k / 6 + " " + k % 6, x.layer(k / 6, k % 6, 0), hit ? Math.max(strength - 1, 0) : strength);
            }
        }
    }

    private static void drawsOfYears() {
        said("2 (3): (If there are BOTTLES) a draw, one more draw");
        for (int many = 0; many < 2; many++) {
            for (int z : new int[] {1, MAX, MIN, -1}) {
                CorkBreaks x = new CorkBreaks();
                if (many == 1) {
                    x.bottle(0, 0, 0);
                }
                x.seed(z);
                Draws d = new Draws(z);
                for (int k = 0; k < (many == 0 ? 1 : 3); k++) {
                    d.next(1);
                }
                due("the year", x.years(1) == BAD ? BAD : x.count(1), 1);
                due("z behind it, with " + many + " bottles", x.count(7), d.z);
            }
        }
    }

    private static CorkBreaks atYear(int year) {
        CorkBreaks x = new CorkBreaks();
        for (int k = 0; k < year / 100; k++) {
            x.years(100);
        }
        if (year % 100 > 0) {
            x.years(year % 100);
        }
        due("the year", x.count(1), year);
        return x;
    }

    private static void lastYear() {
        said("1: THE YEAR is 0 at first, 9999 at most; Promise 15: n (1 .. 100) YEARS (no more than up to 9999)");
        CorkBreaks x = atYear(9898);
        x.rule(0, 100);
        due("a hundred more", x.years(100), 100);
        due("the year", x.count(1), 9998);
        x.bottle(0, 0, 0);
        due("of two one is left", x.years(2), 1);
        due("the year", x.count(1), 9999);
        due("the bottle", x.told(0, 1), 1);
        int z = x.count(7);
        for (int n : new int[] {1, 2, 100}) {
            due("no more", x.years(n), 0);
            due("the year", x.count(1), 9999);
            due("the bottle", x.told(0, 1), 1);
            due("no draws", x.count(7), z);
        }
        due("n is looked at all the same", x.years(0), BAD);
        due("n is looked at all the same", x.years(101), BAD);
        due("a hundred from 9899", dampFrom(9899), 100);
        due("99 from 9900", dampFrom(9900), 99);
        said("Promise 15: years(n): how many of them were damp. BAD");
        range(CorkBreaks::new, 1, 100, CorkBreaks::years);
        due("none were", yearOf(1, 0), 0);
        due("the year of a refused call", refusedYears().count(1), 0);
    }

    private static int dampFrom(int year) {
        CorkBreaks x = atYear(year);
        x.rule(0, 100);
        int damp = x.years(100);
        due("the year", x.count(1), 9999);
        return damp;
    }

    private static CorkBreaks refusedYears() {
        CorkBreaks x = new CorkBreaks();
        due("0 years", x.years(0), BAD);
        due("101 years", x.years(101), BAD);
        return x;
    }

    // ---- 3 what is only thought

    private static void ranges() {
        Setup busy = Checks::busy;
        Setup empty = CorkBreaks::new;
        said("Promise 17: tried(bottle, depth, force, what): a DEPTH 1 .. 6, a FORCE (0 .. 999), what 0, 1. BAD");
        range(busy, 0, 3, (x, v) -> x.tried(v, 1, 0, 0));
        range(busy, 1, 6, (x, v) -> x.tried(0, v, 0, 0));
        range(busy, 0, 999, (x, v) -> x.tried(0, 1, v, 0));
        range(busy, 0, 1, (x, v) -> x.tried(0, 1, 0, v));
        said("Promise 18: depth(bottle, force, what): FORCE (0 .. 999), what 0, 1. BAD");
        range(busy, 0, 3, (x, v) -> x.depth(v, 0, 0));
        range(busy, 0, 999, (x, v) -> x.depth(0, v, 0));
        range(busy, 0, 1, (x, v) -> x.depth(0, 0, v));
        said("Promise 19: tree(bottle, force, what): FORCE (0 .. 999), what 0, 1. BAD");
        range(busy, 0, 3, (x, v) -> x.tree(v, 0, 0));
        range(busy, 0, 999, (x, v) -> x.tree(0, v, 0));
        range(busy, 0, 1, (x, v) -> x.tree(0, 0, v));
        said("Promise 20: behind(n, what): n (0 .. 100); what 0, 1; 2 and k: HELD of BOTTLE k. BAD");
        range(empty, 0, 100, (x, v) -> x.behind(v, 0));
        range(empty, 0, 1, (x, v) -> x.behind(0, v));
        range(busy, 0, 100, (x, v) -> x.behind(v, 5));
        range(busy, 0, 5, (x, v) -> x.behind(100, v));
        range(() -> ofEight(), 0, 9, (x, v) -> x.behind(0, v));
        said("Promise 21: when(bottle, force, what): FORCE (0 .. 999), what 0, 1. BAD");
        range(busy, 0, 3, (x, v) -> x.when(v, 0, 0));
        range(busy, 0, 999, (x, v) -> x.when(0, v, 0));
        range(busy, 0, 1, (x, v) -> x.when(0, 0, v));
        said("Promise 22: which(n, force, what): n (0 .. 60), a FORCE (0 .. 999), what 0, 1. BAD");
        range(busy, 0, 60, (x, v) -> x.which(v, 0, 0));
        range(busy, 0, 999, (x, v) -> x.which(0, v, 0));
        range(busy, 0, 1, (x, v) -> x.which(0, 0, v));
        said("Promise 23: laid(bottle, n, force): n (0 .. 60), a FORCE (0 .. 999). BAD");
        range(busy, 0, 3, (x, v) -> x.laid(v, 0, 0));
        range(busy, 0, 60, (x, v) -> x.laid(0, v, 0));
        range(busy, 0, 999, (x, v) -> x.laid(0, 0, v));
        said("Promise 24: old(sheet, what): SHEETS 0 .. 3, what 0, 1. BAD");
        range(busy, 0, 3, (x, v) -> x.old(v, 0));
        range(busy, 0, 1, (x, v) -> x.old(0, v));
    }

    private static CorkBreaks ofEight() {
        CorkBreaks x = new CorkBreaks();
        due("eight come", x.deal(8), 8);
        return x;
    }

    private static void tried() {
        said("TRIED: what a PULL would bring: how many LAYERS come; how many CRUMBS more");
        int[] strength = row(5, 6, 24, 24, 3, 0);
        int[] hold = row(4, 4, 4, 4, 4, 4);
        // HELD 24, half 12: 5 and 11 are torn; from 3 LAYERS on it breaks at LAYER 4 (3 above 4); the sixth holds the last.
        int[][] want = {{1, 3}, {2, 6}, {5, 2}, {5, 2}, {5, 2}, {6, 0}};
        CorkBreaks x = withCork(strength, hold);
        for (int depth = 1; depth <= 6; depth++) {
            due("layers by " + depth, x.tried(0, depth, 24, 0), want[depth - 1][0]);
            due("crumbs by " + depth, x.tried(0, depth, 24, 1), want[depth - 1][1]);
            due("layers by too little", x.tried(0, depth, 23, 0), 0);
            due("crumbs by too little", x.tried(0, depth, 23, 1), 0);
            CorkBreaks y = withCork(strength, hold);
            due("the pull itself", y.pull(0, depth, 24), want[depth - 1][0]);
            due("its crumbs", y.told(0, 4), want[depth - 1][1]);
        }
        due("crumbs that there are do not count", pushedOn(), 3);
        said("Promise 17: NONE: none is left");
        x.push(0);
        due("none is left", x.tried(0, 1, 999, 0), NONE);
        due("none is left", x.tried(0, 1, 0, 1), NONE);
    }

    /** TRIED of a BOTTLE that has CRUMBS already. */
    private static int pushedOn() {
        CorkBreaks x = withCork(row(0, 0, 0, 0, 0, 0), row(4, 4, 4, 4, 4, 4));
        x.pull(0, 3, 999);
        return x.tried(0, 1, 999, 1);
    }

    private static void bestDepth() {
        said("BEST DEPTH for a FORCE: the DEPTH by which most LAYERS come");
        // HELD 24, half 12: whatever is held is torn, so most come by the whole screw, with most CRUMBS.
        CorkBreaks x = withCork(row(1, 1, 1, 1, 1, 1), row(4, 4, 4, 4, 4, 4));
        due("the depth", x.depth(0, 24, 0), 6);
        due("how many come", x.depth(0, 24, 1), 6);
        said("BEST DEPTH: of several the least");
        due("nothing comes by any", x.depth(0, 23, 0), 1);
        due("nothing comes by any", x.depth(0, 23, 1), 0);
        x = withCork(row(24, 24, 24, 24, 24, 24), row(4, 4, 4, 4, 4, 4));
        due("all come by each", x.depth(0, 24, 0), 1);
        x = withCork(row(11, 1, 24, 24, 24, 24), row(4, 4, 4, 4, 4, 4));
        // 11 are torn; 12 break at LAYER 1 (1 above 16); three held draw all.
        due("all come from 3 on", x.depth(0, 24, 0), 3);
        due("all come from 3 on", x.depth(0, 24, 1), 6);
        said("BEST DEPTH with fewer LAYERS left than 6");
        x = withCork(row(0, 0, 0, 0, 0, 0), row(4, 4, 4, 4, 4, 4));
        due("four are torn", x.pull(0, 4, 999), 4);
        due("two are left: the least by which both come", x.depth(0, 999, 0), 2);
        due("both come", x.depth(0, 999, 1), 2);
        said("Promise 18: NONE: none is left");
        x.push(0);
        due("none is left", x.depth(0, 999, 0), NONE);
        due("none is left", x.depth(0, 0, 1), NONE);
    }

    private static void trees() {
        said("TREE for a FORCE: the fewest CRUMBS more till none is left, by PULLS .. one behind the other; how many PULLS then, at least");
        // HELD 30, half 15, 12 together: LAYER 0 alone is torn (3), then HELD is 6 and the rest is drawn; at once it would be 18.
        CorkBreaks x = withCork(row(0, 0, 0, 0, 0, 12), row(24, 0, 0, 0, 0, 6));
        due("crumbs", x.tree(0, 30, 0), 3);
        due("pulls", x.tree(0, 30, 1), 2);
        // Each is torn by whatever holds it: 18 in six PULLS or in one.
        x = withCork(row(0, 0, 0, 0, 0, 0), row(4, 4, 4, 4, 4, 4));
        due("crumbs of all torn", x.tree(0, 24, 0), 18);
        due("pulls of all torn, at least", x.tree(0, 24, 1), 1);
        due("crumbs that there are do not count", moreOf(x), 15);
        said("TREE: each with that FORCE");
        x = withCork(row(24, 24, 24, 24, 24, 24), row(4, 4, 4, 4, 4, 5));
        due("as much as HELD", x.tree(0, 25, 0), 0);
        due("one pull", x.tree(0, 25, 1), 1);
        said("Promise 19: NONE: nothing comes");
        due("one less than HELD", x.tree(0, 24, 0), NONE);
        due("one less than HELD", x.tree(0, 24, 1), NONE);
        due("nothing holds it, no force", withCork(row(0, 0, 0, 0, 0, 0), row(0, 0, 0, 0, 0, 0)).tree(0, 0, 1), 1);
        said("Promise 19: (with none left: 0)");
        x.push(0);
        for (int what = 0; what < 2; what++) {
            due("none left", x.tree(0, 0, what), 0);
            due("none left", x.tree(0, 999, what), 0);
        }
    }

    private static int moreOf(CorkBreaks x) {
        due("one is torn", x.pull(0, 1, 999), 1);
        return x.tree(0, 999, 0);
    }

    private static void behind() {
        said("BEHIND n YEARS (0 .. 100): STRENGTH of all LAYERS of all, together; HOLD of all, together; HELD of a BOTTLE");
        CorkBreaks none = new CorkBreaks();
        due("of no bottles", none.behind(100, 0), 0);
        due("of no bottles", none.behind(100, 1), 0);
        due("no bottle 0", none.behind(0, 2), BAD);
        CorkBreaks x = new CorkBreaks();
        for (int k = 0; k < 8; k++) {
            x.bottle(2, 0, 1);
            layers(x, k, 0, 24, 24, 24, 24, 24, 24);
            layers(x, k, 1, 24, 24, 24, 24, 24, 24);
        }
        due("strength of all", x.behind(0, 0), 8 * 6 * 24);
        due("hold of all", x.behind(0, 1), 8 * 6 * 24);
        due("held of the last", x.behind(0, 9), 6 * 27);
        x.rule(0, 100);
        due("hold behind one damp year", x.behind(1, 1), 8 * 6 * 24 - 8);
        due("hold behind 24", x.behind(24, 1), 8 * 5 * 24);
        due("hold behind 100", x.behind(100, 1), 8 * 5 * 24);
        due("strength behind 100", x.behind(100, 0), 8 * 6 * 24 - 100);
        due("held behind 100", x.behind(100, 2), 5 * 27 + 3);
        x.push(0);
        due("held of none left", x.behind(100, 2), 0);
        due("hold of what came counts", x.behind(100, 1), 8 * 5 * 24 + 24);
        said("(From now on, z as it is, without the bound of THE YEAR.)");
        for (int year : new int[] {9998, 9999}) {
            CorkBreaks late = atYear(year);
            late.bottle(0, 0, 1);
            late.rule(0, 100);
            due("behind 3 years of " + year, late.behind(3, 1), 33);
            due("when, from " + year, late.when(0, 30, 0), 6);
            due("which, from " + year, late.which(6, 30, 0), 0);
            due("which, from " + year, late.which(5, 30, 0), NONE);
            // HELD is 30 if it lies on, 36 if it stands.
            due("laid, from " + year, late.laid(0, 6, 35), NONE);
            due("laid, from " + year, late.laid(0, 6, 36), 0);
            due("the year stays", late.count(1), year);
        }
    }

    /** HELD is 31 till the first damp year, then 30; it never breaks. */
    private static CorkBreaks dampAt(int z) {
        CorkBreaks x = withBottle(0, 0, 1);
        due("text", text(x, "hard 99"), 0);
        x.sets(0, 5, 1, 1);
        x.rule(0, 1);
        x.seed(z);
        return x;
    }

    /** The number of YEARS behind which the first damp one lies, with one BOTTLE and HUMID 1. */
    private static int firstDamp(Draws d) {
        for (int k = 1; k <= 61; k++) {
            if (d.next(100) < 1) {
                return k;
            }
            d.next(1);
            d.next(1);
        }
        return 62;
    }

    private static void when() {
        said("WHEN: the number 0 .. 60 of YEARS; Promise 21: NONE: nothing ever comes");
        for (int first : new int[] {1, 59, 60, 61}) {
            CorkBreaks x = dampAt(seedWith(d -> firstDamp(d) == first));
            due("a force of 30, damp behind " + first, x.when(0, 30, 0), first <= 60 ? first : NONE);
            due("its crumbs", x.when(0, 30, 1), first <= 60 ? 0 : NONE);
            due("a force of 31", x.when(0, 31, 0), 0);
            due("a force of 29", x.when(0, 29, 0), NONE);
            due("a force of 29", x.when(0, 29, 1), NONE);
        }
        said("WHEN: behind which the CRUMBS of its TREE are fewest; of several the least");
        for (int years : new int[] {38, 39, 98}) {
            CorkBreaks x = withCork(row(0, 0, 0, 0, 0, 0), row(4, 4, 4, 4, 4, 4));
            x.set(0, 1, years);
            due("text", text(x, "hard 99*(y>98)"), 0);
            due("from YEARS " + years + " on", x.when(0, 24, 0), years == 38 ? 0 : 99 - years);
            due("from YEARS " + years + " on, crumbs", x.when(0, 24, 1), years == 38 ? 18 : 0);
        }
        said("WHEN: (those with which nothing comes are none)");
        CorkBreaks x = withCork(row(0, 0, 0, 0, 0, 0), row(4, 4, 4, 4, 4, 4));
        x.set(0, 2, 1);
        x.rule(0, 100);
        // Nothing comes at HELD 24; then all is torn (18), till LAYER 5 GRIPS 1, whose half is 0: it is drawn (15).
        due("crumbs behind three years, nothing ahead of them", x.when(0, 23, 0), 3);
        due("crumbs behind three years, nothing ahead of them", x.when(0, 23, 1), 15);
        x.push(0);
        due("none left", x.when(0, 0, 0), 0);
        due("none left", x.when(0, 0, 1), 0);
    }

    private static void which() {
        said("WHICH: the BOTTLE (with LEFT 6) the CRUMBS of whose TREE behind n YEARS are fewest (likewise); of several the least");
        CorkBreaks x = new CorkBreaks();
        due("of no bottles", x.which(0, 999, 0), NONE);
        due("of no bottles", x.which(60, 999, 1), NONE);
        for (int k = 0; k < 8; k++) {
            x.bottle(0, 0, 0);
            layers(x, k, 0, 0, 0, 0, 0, 0, k == 3 || k == 7 ? 12 : 0);
            layers(x, k, 1, 24, 0, 0, 0, 0, 6);
        }
        due("3 and 7 alike: the least", x.which(0, 30, 0), 3);
        due("its crumbs", x.which(0, 30, 1), 3);
        due("3 has 5 left", x.pull(3, 1, 30), 1);
        due("the other one", x.which(0, 30, 0), 7);
        x.push(7);
        due("the rest is alike", x.which(0, 30, 0), 0);
        // Nothing of it is STRONG: at HELD 30 and at HELD 6 alike all is torn.
        due("its crumbs", x.which(0, 30, 1), 18);
        due("one less than HELD", x.which(0, 29, 0), NONE);
        due("one less than HELD", x.which(0, 29, 1), NONE);
        for (int k = 0; k < 7; k++) {
            if (k != 3) {
                x.push(k);
            }
        }
        due("none is whole", x.which(0, 999, 0), NONE);
        said("WHICH: behind n (0 .. 60) YEARS");
        for (int first : new int[] {59, 60}) {
            CorkBreaks y = dampAt(seedWith(d -> firstDamp(d) == first));
            due("the year ahead of the damp one", y.which(first - 1, 30, 0), NONE);
            due("the damp one", y.which(first, 30, 0), 0);
            due("the damp one", y.which(first, 30, 1), 0);
        }
    }

    private static void laid() {
        said("LAID: CRUMBS of its TREE behind n YEARS, as it is, less if it were LYING the other way from now on");
        // A dry year: standing, LAYER 0 loses 5. HELD is 48, half of it 24.
        int z = seedWith(d -> d.next(1) + d.next(1) == 0 && d.next(6) == 5);
        for (int lying = 0; lying < 2; lying++) {
            CorkBreaks x = withCork(row(24, 0, 0, 0, 0, 0), row(0, 0, 0, 0, 24, 24));
            x.set(0, 2, lying);
            x.rule(0, 0);
            x.rule(1, 5);
            x.seed(z);
            due("behind no years", x.laid(0, 0, 999), 0);
            // Lying, the whole screw draws all by 24; standing, 19 are torn, and so is all that is left then: 18.
            due("behind one dry year, lying " + lying, x.laid(0, 1, 999), lying == 1 ? -18 : 18);
        }
        said("Promise 23: NONE: with one of both nothing comes");
        for (int lying = 0; lying < 2; lying++) {
            CorkBreaks x = withBottle(0, 0, lying);
            x.rule(0, 100);
            due("neither comes", x.laid(0, 1, 34), NONE);
            due("that which lies comes", x.laid(0, 1, 35), NONE);
            due("both come", x.laid(0, 1, 36), 0);
            layers(x, 0, 0, 0, 0, 0, 0, 0, 0);
            due("that which lies comes, with crumbs", x.laid(0, 1, 35), NONE);
            due("both come, with crumbs alike", x.laid(0, 1, 36), 0);
            due("neither comes, behind no years", x.laid(0, 0, 35), NONE);
            due("both come, behind no years", x.laid(0, 0, 36), 0);
            x.push(0);
            due("none left", x.laid(0, 60, 0), 0);
        }
        for (int first : new int[] {59, 60}) {
            CorkBreaks y = dampAt(seedWith(d -> firstDamp(d) == first));
            y.set(0, 2, 0);
            due("n ahead of the damp year: neither", y.laid(0, first - 1, 30), NONE);
            due("n ahead of the damp year: both", y.laid(0, first - 1, 31), 0);
            y.sets(0, 5, 1, 0);
            due("nothing to wear", y.laid(0, first, 30), 0);
        }
    }

    private static void old() {
        said("OLD: GRIPS of LAYERS k and places k that are numbers differ least (signs left out), together; of several the least");
        CorkBreaks x = new CorkBreaks();
        x.bottle(0, 0, 0);
        x.bottle(2, 0, 0);
        x.bottle(1, 0, 0);
        x.sheet(0, 0, 1);
        int[][] places = {{6, 0, 0}, {7, 0, 1}, {8, 1, 1}, {9, 1, 0}, {10, 1, 1}, {5, 0, 1}, {-5, 0, 11}, {32767, 1, 32758}, {-32768, 0, 32774}};
        for (int[] p : places) {
            x.mark(0, 0, p[0]);
            due("the bottle by " + p[0], x.old(0, 0), p[1]);
            due("the differences by " + p[0], x.old(0, 1), p[2]);
        }
        x.sheet(1, 1, 6);
        for (int k = 0; k < 5; k++) {
            x.mark(1, k, NONE);
        }
        x.mark(1, 5, 9);
        due("the last layer alone", x.old(1, 0), 1);
        due("the last layer alone", x.old(1, 1), 0);
        x.mark(1, 5, NONE);
        due("no number: all alike", x.old(1, 0), 0);
        due("no number: all alike", x.old(1, 1), 0);
        x.sheet(2, 0, 0);
        due("no places: all alike", x.old(2, 0), 0);
        due("no places: all alike", x.old(2, 1), 0);
        said("OLD: of places beyond 5: 0");
        x.sheet(1, 1, 24);
        for (int k = 0; k < 24; k++) {
            x.mark(1, k, NONE);
        }
        x.mark(1, 5, 9);
        x.mark(1, 6, 0);
        due("0 beyond 5", x.old(1, 1), 0);
        x.mark(1, 6, 3);
        x.mark(1, 23, -99999);
        due("the bottle stays", x.old(1, 0), 1);
        due("the numbers beyond 5 themselves", x.old(1, 1), 100002);
        said("Promise 24: NOTHING; NONE: there are no BOTTLES");
        due("missing", x.old(3, 0), NOTHING);
        CorkBreaks y = new CorkBreaks();
        due("missing", y.old(0, 1), NOTHING);
        y.sheet(0, 0, 0);
        due("no bottles", y.old(0, 0), NONE);
        due("no bottles", y.old(0, 1), NONE);
    }

    public static void main(String[] args) {
        dampOrDry();
        wears();
        ages();
        oneIsLess();
        drawsOfYears();
        lastYear();
        ranges();
        tried();
        bestDepth();
        trees();
        behind();
        when();
        which();
        laid();
        old();
        ends();
    }
}
