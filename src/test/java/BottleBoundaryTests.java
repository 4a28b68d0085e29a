/** The boundary cases of "1 BOTTLES" and of the calls about bottles and layers, a sentence of the document at a time. */
public final class BottleBoundaryTests extends Checks {

    // ---- 1 BOTTLES: how many, and what each has

    private static void howMany() {
        said("1: BOTTLES, 8 at most, numbered from 0");
        CorkBreaks x = new CorkBreaks();
        due("told of the first, with none", x.told(0, 0), BAD);
        for (int k = 0; k < 8; k++) {
            due("a bottle", x.bottle(0, k, 0), k);
            due("the next one is not there yet", x.told(k + 1, 1), BAD);
        }
        due("the ninth", x.bottle(0, 0, 0), FULL);
        due("how many", x.count(0), 8);
        due("the first", x.told(0, 1), 0);
        due("the last", x.told(7, 1), 7);
        due("ahead of the first", x.told(-1, 1), BAD);
    }

    private static void atFirst() {
        said("1: STRENGTH 0 .. 24 of each (12 at first), HOLD 0 .. 24 of each (6 at first)");
        CorkBreaks x = withBottle(0, 7, 1);
        for (int k = 0; k < 6; k++) {
            due("strength of " + k, x.layer(0, k, 0), 12);
            due("hold of " + k, x.layer(0, k, 1), 6);
        }
        said("1: LEFT (6 at first), CRUMBS (0 at first), WARM 0 .. 3 (0 at first)");
        due("left", x.told(0, 3), 6);
        due("crumbs", x.told(0, 4), 0);
        due("warm", x.told(0, 5), 0);
        said("1: HUMID is 0 .. 100 (50 at first), WEAR 0 .. 5 (1 at first). THE YEAR is 0 at first");
        due("humid", x.count(2), 50);
        due("wear", x.count(3), 1);
        due("the year", x.count(1), 0);
        said("2: z is told (1 at first)");
        due("z", x.count(7), 1);
    }

    private static void atFirstAgain() {
        said("1: .. at first: of a BOTTLE whose number another one had, too");
        for (int dealt = 0; dealt < 2; dealt++) {
            CorkBreaks x = new CorkBreaks();
            x.keep();
            x.bottle(3, 50, 1);
            x.warm(0);
            layers(x, 0, 0, 1, 1, 1, 1, 1, 1);
            layers(x, 0, 1, 1, 1, 1, 1, 1, 1);
            x.push(0);
            due("none is left", x.back(), 0);
            due("its number again", dealt == 0 ? x.bottle(0, 0, 0) : x.deal(1) - 1, 0);
            due("left", x.told(0, 3), 6);
            due("crumbs", x.told(0, 4), 0);
            due("warm", x.told(0, 5), 0);
            for (int k = 0; k < 6; k++) {
                due("hold of " + k, x.layer(0, k, 1), 6);
                due("strength of " + k, dealt == 1 ? 12 : x.layer(0, k, 0), 12);
            }
        }
    }

    private static void top() {
        said("1: LAYERS 0 (the top) .. 5; LEFT (so many LAYERS are left in the neck, the last ones)");
        CorkBreaks x = withCork(row(0, 0, 0, 0, 0, 0), row(1, 2, 3, 4, 5, 24));
        int[] held = {39, 38, 36, 33, 29, 24};
        for (int k = 0; k < 6; k++) {
            due("left", x.told(0, 3), 6 - k);
            due("held with " + (6 - k) + " left", x.told(0, 6), held[k]);
            due("one is torn", x.pull(0, 1, 999), 1);
        }
        due("none left", x.told(0, 3), 0);
        due("held with none left", x.told(0, 6), 0);
        due("a layer that came is still told", x.layer(0, 0, 1), 1);
    }

    private static void kinds() {
        said("1: KINDS: 0 CORK; 1 SOUND, 2 DRY, 5 MUSTY, under CORK; 3 SOAKED, under SOUND; 4 CRUMBLY, under DRY (all are CORKS)");
        // A row for each KIND, a column for each that it is asked as.
        String[] of = {"y.....", "yy....", "y.y...", "yy.y..", "y.y.y.", "y....y"};
        CorkBreaks x = ofKinds();
        for (int k = 0; k < 6; k++) {
            for (int n = 0; n < 6; n++) {
                due(k + " as " + n, x.as(k, n), of[k].charAt(n) == 'y' ? 10 * k + 5 : KIND);
            }
        }
    }

    // ---- STRONG, GRIPS, WORTH

    /** STRONG of a LAYER of a BOTTLE of that KIND. */
    private static int strong(int kind, int years, int layer, int strength) {
        CorkBreaks x = withBottle(kind, years, 0);
        x.sets(0, layer, 0, strength);
        return x.layer(0, layer, 2);
    }

    private static int strongBy(String hard, int kind, int layer) {
        CorkBreaks x = withBottle(kind, 20, 0);
        due("text of " + hard, text(x, hard), 0);
        return x.layer(0, layer, 2);
    }

    private static void strongOfCorks() {
        said("STRONG: CORK: what hard gives, held within 0 .. 99");
        String[] laws = {"hard 0-1", "0", "hard 0", "0", "hard 1", "1", "hard 98", "98", "hard 99", "99", "hard 100", "99", "hard 9999", "99",
            "hard 8192*8192*32", "0", "hard 8192*8192*32-1", "99", "hard 0-9999", "0"};
        for (int k = 0; k < laws.length; k += 2) {
            due(laws[k], strongBy(laws[k], 0, 3), Integer.parseInt(laws[k + 1]));
        }
        said("STRONG: CORK: without a TEXT: STRENGTH");
        for (int v : new int[] {0, 1, 12, 24}) {
            due("cork of " + v, strong(0, 99, 0, v), v);
        }
        said("A KIND that is not named does as the one above it: STRONG of MUSTY");
        due("musty of 0", strong(5, 99, 0, 0), 0);
        due("musty of 24", strong(5, 99, 5, 24), 24);
        due("musty of 100", strongBy("hard 100", 5, 0), 99);
    }

    private static void strongOfSound() {
        said("STRONG: SOUND: as CORK, and 6");
        due("sound of 0", strong(1, 0, 0, 0), 6);
        due("sound of 24", strong(1, 0, 5, 24), 30);
        due("sound of more than 99", strongBy("hard 100", 1, 0), 105);
        due("sound of less than 0", strongBy("hard 0-9", 1, 0), 6);
        said("STRONG: SOAKED: half (cut) of as SOUND");
        due("soaked of 0", strong(3, 0, 0, 0), 3);
        due("soaked of 1", strong(3, 0, 0, 1), 3);
        due("soaked of 2", strong(3, 0, 0, 2), 4);
        due("soaked of 24", strong(3, 0, 5, 24), 15);
        due("soaked of more than 99", strongBy("hard 100", 3, 0), 52);
    }

    private static void strongOfDry() {
        said("STRONG: DRY: as CORK, less 5, if the LAYER is 0, 1 or 2 (0 at least)");
        for (int layer = 0; layer < 6; layer++) {
            boolean less = layer < 3;
            due("dry of 0 at " + layer, strong(2, 0, layer, 0), 0);
            due("dry of 4 at " + layer, strong(2, 0, layer, 4), less ? 0 : 4);
            due("dry of 5 at " + layer, strong(2, 0, layer, 5), less ? 0 : 5);
            due("dry of 6 at " + layer, strong(2, 0, layer, 6), less ? 1 : 6);
            due("dry of 24 at " + layer, strong(2, 99, layer, 24), less ? 19 : 24);
        }
        due("dry of more than 99", strongBy("hard 103", 2, 2), 94);
        said("STRONG: CRUMBLY: as DRY, less YEARS / 20 (0 at least)");
        int[][] less = {{0, 0}, {19, 0}, {20, 1}, {39, 1}, {40, 2}, {59, 2}, {60, 3}, {79, 3}, {80, 4}, {99, 4}};
        for (int[] c : less) {
            due("crumbly of YEARS " + c[0], strong(4, c[0], 3, 12), 12 - c[1]);
            due("crumbly at the top of YEARS " + c[0], strong(4, c[0], 0, 12), 7 - c[1]);
        }
        due("crumbly of 3, less 4", strong(4, 99, 5, 3), 0);
        due("crumbly of 4, less 4", strong(4, 99, 5, 4), 0);
        due("crumbly of 5, less 4", strong(4, 99, 5, 5), 1);
        due("crumbly of 8 at 2, less 9", strong(4, 99, 2, 8), 0);
        due("crumbly of 10 at 2, less 9", strong(4, 99, 2, 10), 1);
        due("crumbly of less than 0", strongBy("hard 0-9", 4, 5), 0);
    }

    private static int grips(int kind, int warm, int hold) {
        CorkBreaks x = withBottle(kind, 0, 0);
        x.sets(0, 4, 1, hold);
        for (int k = 0; k < warm; k++) {
            x.warm(0);
        }
        return x.layer(0, 4, 3);
    }

    private static void gripsOfKinds() {
        // KIND, WARM, HOLD, GRIPS.
        said("GRIPS: CORK: HOLD, less 3 WARM (0 at least)");
        int[][] cork = {{0, 0, 0, 0}, {0, 0, 24, 24}, {0, 1, 2, 0}, {0, 1, 3, 0}, {0, 1, 4, 1}, {0, 2, 6, 0}, {0, 2, 7, 1}, {0, 3, 0, 0},
            {0, 3, 8, 0}, {0, 3, 9, 0}, {0, 3, 10, 1}, {0, 3, 24, 15}};
        all(cork);
        said("A KIND that is not named does as the one above it: GRIPS of SOUND");
        all(new int[][] {{1, 0, 0, 0}, {1, 0, 24, 24}, {1, 1, 2, 0}, {1, 1, 4, 1}});
        said("GRIPS: SOAKED: as SOUND, less 4 (0 at least)");
        all(new int[][] {{3, 0, 0, 0}, {3, 0, 3, 0}, {3, 0, 4, 0}, {3, 0, 5, 1}, {3, 0, 24, 20}, {3, 1, 6, 0}, {3, 1, 7, 0}, {3, 1, 8, 1}});
        said("GRIPS: DRY: as CORK, and 3");
        all(new int[][] {{2, 0, 0, 3}, {2, 0, 24, 27}, {2, 1, 2, 3}, {2, 1, 4, 4}});
        said("GRIPS: CRUMBLY: as DRY, and 1");
        all(new int[][] {{4, 0, 0, 4}, {4, 0, 24, 28}, {4, 1, 2, 4}, {4, 1, 4, 5}});
        said("GRIPS: MUSTY: half (cut) of as CORK");
        all(new int[][] {{5, 0, 0, 0}, {5, 0, 1, 0}, {5, 0, 2, 1}, {5, 0, 3, 1}, {5, 0, 24, 12}, {5, 1, 6, 1}, {5, 1, 4, 0}, {5, 1, 5, 1}});
    }

    private static void all(int[][] grips) {
        for (int[] g : grips) {
            due("grips of KIND " + g[0] + ", WARM " + g[1] + ", HOLD " + g[2], grips(g[0], g[1], g[2]), g[3]);
        }
    }

    private static void worthOfKinds() {
        said("WORTH: CORK: YEARS. SOUND: as CORK, and 7. SOAKED: twice as SOUND. DRY: 99 less YEARS. CRUMBLY: as DRY, less 6. MUSTY: 3");
        int[] ofNone = {0, 7, 99, 14, 93, 3};
        int[] of99 = {99, 106, 0, 212, -6, 3};
        for (int k = 0; k < 6; k++) {
            due("worth of KIND " + k + " of YEARS 0", withBottle(k, 0, 0).told(0, 7), ofNone[k]);
            due("worth of KIND " + k + " of YEARS 99", withBottle(k, 99, 0).told(0, 7), of99[k]);
        }
    }

    // ---- A PULL

    /** {LAYERS, CRUMBS more} of a PULL on a bottle of its own. */
    private static void pulls(String what, CorkBreaks x, int depth, int force, int layers, int crumbs) {
        int left = x.told(0, 3);
        int was = x.told(0, 4);
        due(what + ": layers", x.pull(0, depth, force), layers);
        due(what + ": left", x.told(0, 3), left - layers);
        due(what + ": crumbs more", x.told(0, 4) - was, crumbs);
    }

    private static void nothingComes() {
        said("(1) If FORCE is less than HELD: nothing comes");
        int[] strong = row(24, 24, 24, 24, 24, 24);
        CorkBreaks x = withCork(strong, row(6, 6, 6, 6, 6, 7));
        pulls("a force of 36 at HELD 37", x, 6, 36, 0, 0);
        pulls("a force of 37 at HELD 37", x, 6, 37, 6, 0);
        pulls("a force of 0 at HELD 1", withCork(strong, row(0, 0, 0, 0, 0, 1)), 1, 0, 0, 0);
        pulls("a force of 0 at HELD 0", withCork(strong, row(0, 0, 0, 0, 0, 0)), 1, 0, 6, 0);
        pulls("a force of 999 at HELD 144", withCork(strong, row(24, 24, 24, 24, 24, 24)), 6, 999, 6, 0);
    }

    private static void torn() {
        said("(2) if STRONG of the LAYERS that the screw holds, together, is less than HELD / 2 (cut): just these come, as crumbs (3 more for each)");
        int[] hold = row(6, 6, 6, 6, 6, 6);
        pulls("17 at HELD 36", withCork(row(17, 24, 24, 24, 24, 24), hold), 1, 999, 1, 3);
        // 18 is not less, but it is less than the 30 beneath: it breaks there.
        pulls("18 at HELD 36", withCork(row(18, 24, 24, 24, 24, 24), hold), 1, 999, 1, 2);
        pulls("18 at HELD 37", withCork(row(18, 24, 24, 24, 24, 24), row(7, 6, 6, 6, 6, 6)), 1, 999, 1, 2);
        pulls("17 at HELD 37", withCork(row(17, 24, 24, 24, 24, 24), row(7, 6, 6, 6, 6, 6)), 1, 999, 1, 3);
        pulls("0 at HELD 1: half of it is 0", withCork(row(0, 0, 0, 0, 0, 0), row(1, 0, 0, 0, 0, 0)), 1, 1, 6, 0);
        pulls("0 at HELD 2", withCork(row(0, 0, 0, 0, 0, 0), row(2, 0, 0, 0, 0, 0)), 1, 2, 1, 3);
        pulls("17 of three, together", withCork(row(5, 6, 6, 24, 24, 24), hold), 3, 999, 3, 9);
        pulls("18 of three, together", withCork(row(6, 6, 6, 24, 24, 24), hold), 3, 999, 3, 2);
        pulls("17 of all, together", withCork(row(3, 3, 3, 3, 3, 2), hold), 6, 999, 6, 18);
        pulls("18 of all, together", withCork(row(3, 3, 3, 3, 3, 3), hold), 6, 999, 6, 0);
    }

    private static void breaks() {
        said("(3) the first LAYER .. that is STRONG less than GRIPS of all those beneath it, together: it and all above it come (CRUMBS 2 more)");
        int[] hold = row(0, 0, 0, 8, 8, 8);
        pulls("23 above 24", withCork(row(24, 24, 23, 24, 24, 24), hold), 1, 999, 3, 2);
        pulls("24 above 24", withCork(row(24, 24, 24, 24, 24, 24), hold), 1, 999, 6, 0);
        pulls("7 above the last", withCork(row(24, 24, 24, 24, 7, 0), hold), 1, 999, 5, 2);
        pulls("8 above the last", withCork(row(24, 24, 24, 24, 8, 0), hold), 1, 999, 6, 0);
        said("(3) the first LAYER, from the last that the screw holds on down");
        int[] weak = row(24, 0, 24, 0, 0, 24);
        pulls("the last held is strong, the next one weak", withCork(weak, hold), 1, 999, 2, 2);
        pulls("the last held is weak itself", withCork(weak, hold), 2, 999, 2, 2);
        pulls("a weak one above the last held does not count", withCork(weak, hold), 3, 999, 4, 2);
        pulls("of two weak ones the first", withCork(weak, hold), 4, 999, 4, 2);
        pulls("the second of the weak ones", withCork(weak, hold), 5, 999, 5, 2);
        said("(3) if there is none, all come");
        pulls("the screw holds the last", withCork(weak, hold), 6, 999, 6, 0);
        pulls("a last one of 0 above nothing", withCork(row(24, 24, 24, 24, 24, 0), hold), 6, 999, 6, 0);
    }

    private static void fewerLeft() {
        said("the screw holds the first DEPTH of those LAYERS that are left (all, if there are fewer)");
        for (int depth = 2; depth <= 6; depth++) {
            CorkBreaks x = withCork(row(0, 0, 0, 0, 2, 0), row(24, 24, 24, 24, 6, 6));
            pulls("four are torn", x, 4, 999, 4, 12);
            pulls("two are left: 2 at HELD 12, depth " + depth, x, depth, 12, 2, 6);
        }
        for (int depth = 1; depth <= 6; depth++) {
            CorkBreaks x = withCork(row(0, 0, 0, 0, 0, 24), row(24, 24, 24, 24, 24, 6));
            pulls("five are torn", x, 5, 999, 5, 15);
            pulls("one is left: too weak, depth " + depth, x, depth, 5, 0, 0);
            pulls("one is left, depth " + depth, x, depth, 6, 1, 0);
        }
        CorkBreaks x = withCork(row(0, 24, 0, 24, 24, 24), row(24, 12, 12, 0, 0, 0));
        pulls("the top is torn", x, 1, 999, 1, 3);
        pulls("the screw starts anew from the first that is left", x, 1, 24, 5, 0);
    }

    // ---- the calls

    private static void rangesOfCalls() {
        Setup empty = CorkBreaks::new;
        Setup busy = Checks::busy;
        said("Promise 2: bottle(kind, years, lying): KIND 0 .. 5, YEARS 0 .. 99, LYING 1 or not 0");
        range(empty, 0, 5, (x, v) -> x.bottle(v, 0, 0));
        range(empty, 0, 99, (x, v) -> x.bottle(0, v, 0));
        range(empty, 0, 1, (x, v) -> x.bottle(0, 0, v));
        said("Promise 3: told(bottle, what): what 0 .. 7. BAD");
        range(busy, 0, 3, (x, v) -> x.told(v, 0));
        range(busy, 0, 7, (x, v) -> x.told(0, v));
        range(busy, 0, 7, (x, v) -> x.told(1, v));
        said("Promise 4: layer(bottle, layer, what): LAYERS 0 .. 5, what 0 .. 3. BAD");
        range(busy, 0, 3, (x, v) -> x.layer(v, 0, 0));
        range(busy, 0, 5, (x, v) -> x.layer(0, v, 0));
        range(busy, 0, 3, (x, v) -> x.layer(0, 0, v));
        said("Promise 5: sets(bottle, layer, what, v): what 0, 1; 0 .. 24. BAD");
        range(busy, 0, 3, (x, v) -> x.sets(v, 0, 0, 0));
        range(busy, 0, 5, (x, v) -> x.sets(0, v, 0, 0));
        range(busy, 0, 1, (x, v) -> x.sets(0, 0, v, 0));
        range(busy, 0, 24, (x, v) -> x.sets(0, 0, 0, v));
        range(busy, 0, 24, (x, v) -> x.sets(0, 0, 1, v));
        said("Promise 6: as(bottle, kind): BAD: bottle, kind");
        range(busy, 0, 3, (x, v) -> x.as(v, 0));
        range(busy, 0, 5, (x, v) -> x.as(0, v));
        said("Promise 7: turns(bottle, kind): BAD");
        range(busy, 0, 3, (x, v) -> x.turns(v, 0));
        range(busy, 0, 5, (x, v) -> x.turns(0, v));
        said("Promise 8: set(bottle, what, v): what 1, 2; YEARS 0 .. 99, LYING 1 or not 0. BAD");
        range(busy, 0, 3, (x, v) -> x.set(v, 1, 0));
        range(busy, 1, 2, (x, v) -> x.set(0, v, 0));
        range(busy, 0, 99, (x, v) -> x.set(0, 1, v));
        range(busy, 0, 1, (x, v) -> x.set(0, 2, v));
        said("Promise 9: pull(bottle, depth, force): DEPTH 1 .. 6, force 0 .. 999. BAD");
        range(busy, 0, 3, (x, v) -> x.pull(v, 1, 0));
        range(busy, 1, 6, (x, v) -> x.pull(0, v, 0));
        range(busy, 0, 999, (x, v) -> x.pull(0, 1, v));
        said("Promise 10: push(bottle): BAD");
        range(busy, 0, 3, CorkBreaks::push);
        said("Promise 11: warm(bottle): BAD");
        range(busy, 0, 3, CorkBreaks::warm);
        said("Promise 12: rule(what, v): what 0, 1; HUMID is 0 .. 100, WEAR 0 .. 5. BAD");
        range(empty, 0, 1, (x, v) -> x.rule(v, 0));
        range(empty, 0, 100, (x, v) -> x.rule(0, v));
        range(empty, 0, 5, (x, v) -> x.rule(1, v));
        said("Promise 13: deal(n): n (1 .. 8). BAD");
        range(empty, 1, 8, CorkBreaks::deal);
        said("Promise 16: cellar(what): what 0 .. 3. BAD");
        range(empty, 0, 3, CorkBreaks::cellar);
        range(busy, 0, 3, CorkBreaks::cellar);
    }

    private static void ends0And24() {
        said("Promise 5: STRENGTH, HOLD (what 0, 1) of a LAYER of a BOTTLE becomes v: what it was");
        CorkBreaks x = ofKinds();
        for (int layer = 0; layer < 6; layer++) {
            for (int what = 0; what < 2; what++) {
                due("what it was at first", x.sets(5, layer, what, 24), what == 0 ? 12 : 6);
                due("the most", x.layer(5, layer, what), 24);
                due("what it was", x.sets(5, layer, what, 0), 24);
                due("the least", x.layer(5, layer, what), 0);
                due("the other bottle's", x.layer(4, layer, what), what == 0 ? 12 : 6);
            }
        }
        said("Promise 8: YEARS, LYING (what 1, 2) of a BOTTLE becomes v: what it was");
        due("what years were", x.set(5, 1, 99), 55);
        due("what years were", x.set(5, 1, 0), 99);
        due("years", x.told(5, 1), 0);
        due("what lying was", x.set(5, 2, 0), 1);
        due("what lying was", x.set(5, 2, 1), 0);
        due("lying", x.told(5, 2), 1);
        due("the other bottle's", x.told(4, 1) * 10 + x.told(4, 2), 450);
        said("Promise 12: HUMID, WEAR (what 0, 1) becomes v: what it was");
        due("what humid was", x.rule(0, 100), 50);
        due("what humid was", x.rule(0, 0), 100);
        due("what wear was", x.rule(1, 5), 1);
        due("what wear was", x.rule(1, 0), 5);
        due("both", x.count(2) + x.count(3), 0);
    }

    private static void noneLeft() {
        said("Promise 9: NO: none is left");
        CorkBreaks x = withBottle(0, 0, 0);
        due("too weak", x.pull(0, 5, 35), 0);
        x.sets(0, 4, 0, 0);
        due("all but one", x.pull(0, 5, 36), 5);
        due("the last one", x.pull(0, 1, 999), 1);
        due("none is left", x.pull(0, 1, 999), NO);
        due("none is left, without force", x.pull(0, 6, 0), NO);
        said("Promise 10: What is left is pushed in (LEFT 0; CRUMBS 1 more for each LAYER): how many LAYERS. NO: none is left");
        due("none is left", x.push(0), NO);
        due("a new one", x.bottle(0, 0, 0), 1);
        due("six", x.push(1), 6);
        due("crumbs", x.told(1, 4), 6);
        due("left", x.told(1, 3), 0);
        due("none is left", x.push(1), NO);
        due("crumbs stay", x.told(1, 4), 6);
        due("a new one", x.bottle(0, 0, 0), 2);
        layers(x, 2, 0, 0, 0, 0, 0, 0, 0);
        due("five come", x.pull(2, 5, 999), 5);
        due("the last one is pushed in", x.push(2), 1);
        due("crumbs", x.told(2, 4), 16);
        due("none is left", x.push(2), NO);
    }

    private static void warmThreeTimes() {
        said("Promise 11: WARM 1 more: WARM then. FULL: it is 3");
        CorkBreaks x = ofKinds();
        for (int k = 1; k <= 3; k++) {
            due("warm", x.warm(0), k);
            due("told", x.told(0, 5), k);
        }
        due("a fourth time", x.warm(0), FULL);
        due("told", x.told(0, 5), 3);
        due("the next bottle", x.warm(1), 1);
    }

    private static void dealtAsRoomIs() {
        said("Promise 13: as many as there is room for (no draws for others): how many came");
        for (int there = 0; there <= 8; there++) {
            for (int n : new int[] {1, 7 - there, 8 - there, 9 - there, 8}) {
                if (n < 1 || n > 8) {
                    continue;
                }
                CorkBreaks x = new CorkBreaks();
                for (int k = 0; k < there; k++) {
                    x.bottle(0, 0, 0);
                }
                int came = Math.min(n, 8 - there);
                Draws d = new Draws(1);
                for (int k = 0; k < 9 * came; k++) {
                    d.next(1);
                }
                due("deal of " + n + " with " + there + " there", x.deal(n), came);
                due("how many there are", x.count(0), there + came);
                due("nine draws for each", x.count(7), d.z);
            }
        }
    }

    private static void drawnBottles() {
        said("2: BOTTLES that are drawn: KIND the rest of a draw by 6, YEARS that of one more by 60, LYING that of one more by 2, STRENGTH by 25");
        for (int end = 0; end < 2; end++) {
            int most = end;
            int kind = seedWith(d -> d.next(6) == 5 * most);
            int years = seedWith(d -> d.next(1) == 0 && d.next(60) == 59 * most);
            int lying = seedWith(d -> d.next(1) + d.next(1) == 0 && d.next(2) == most);
            int first = seedWith(d -> skips(d, 3) && d.next(25) == 24 * most);
            int last = seedWith(d -> skips(d, 8) && d.next(25) == 24 * most);
            due("kind", dealt(kind).told(0, 0), 5 * end);
            due("years", dealt(years).told(0, 1), 59 * end);
            due("lying", dealt(lying).told(0, 2), end);
            due("strength of 0", dealt(first).layer(0, 0, 0), 24 * end);
            due("strength of 5", dealt(last).layer(0, 5, 0), 24 * end);
        }
        said("2: z becomes z * 1103515245 + 12345 (an int); it gives z >>> 8");
        for (int z : new int[] {MIN, MAX, -1, 0, 1, 12345}) {
            Draws d = new Draws(z);
            CorkBreaks x = dealt(z);
            due("kind by z " + z, x.told(0, 0), d.next(6));
            due("years by z " + z, x.told(0, 1), d.next(60));
            skips(d, 7);
            due("z behind " + z, x.count(7), d.z);
        }
        // Worked out by hand: z 0 becomes 12345, which gives 48; then -740551042, which gives 13884438 (with its sign kept: -2892778).
        due("z 0: kind", dealt(0).told(0, 0), 0);
        due("z 0: years", dealt(0).told(0, 1), 18);
    }

    private static boolean skips(Draws d, int many) {
        for (int k = 0; k < many; k++) {
            d.next(1);
        }
        return true;
    }

    private static CorkBreaks dealt(int z) {
        CorkBreaks x = new CorkBreaks();
        x.seed(z);
        due("one comes", x.deal(1), 1);
        return x;
    }

    private static void seeds() {
        said("Promise 14: seed(v): z becomes v: what it was");
        CorkBreaks x = new CorkBreaks();
        int was = 1;
        for (int v : new int[] {MAX, MIN, 0, -1, BAD, NONE}) {
            due("what it was", x.seed(v), was);
            due("z", x.count(7), v);
            was = v;
        }
    }

    private static void cellars() {
        said("Promise 16: 0 LEFT of all, 1 CRUMBS of all, 2 those with LEFT 0, as a set, 3 YEARS of all, together");
        CorkBreaks x = new CorkBreaks();
        for (int what = 0; what < 4; what++) {
            due("of no bottles " + what, x.cellar(what), 0);
        }
        for (int k = 0; k < 8; k++) {
            x.bottle(0, 99, 0);
        }
        due("left of 8", x.cellar(0), 48);
        due("years of 8", x.cellar(3), 792);
        layers(x, 3, 0, 0, 0, 0, 0, 0, 0);
        due("all but one of a bottle", x.pull(3, 5, 999), 5);
        due("one with a layer left is none of the set", x.cellar(2), 0);
        said("Sets of BOTTLES are told as bits (bit k for number k)");
        int set = 0;
        for (int k = 7; k >= 0; k--) {
            x.push(k);
            set |= 1 << k;
            due("the set", x.cellar(2), set);
        }
        due("all", x.cellar(2), 255);
        due("left", x.cellar(0), 0);
        due("crumbs", x.cellar(1), 7 * 6 + 15 + 1);
    }

    private static void turned() {
        said("Promise 7: A BOTTLE is of another KIND from now on: what it was");
        CorkBreaks x = withBottle(0, 40, 0);
        int was = 0;
        int[] worth = {40, 47, 59, 94, 53, 3};
        for (int kind : new int[] {5, 4, 3, 2, 1, 0, 0}) {
            due("what it was", x.turns(0, kind), was);
            due("kind", x.told(0, 0), kind);
            due("worth", x.told(0, 7), worth[kind]);
            was = kind;
        }
        said("Promise 6: A BOTTLE as one of a KIND: YEARS. KIND: it is not of that KIND, nor of one under it");
        due("cork as cork", x.as(0, 0), 40);
        due("one above is not one under", x.as(0, 3), KIND);
        x.turns(0, 3);
        due("soaked as sound", x.as(0, 1), 40);
        due("soaked as dry", x.as(0, 2), KIND);
        x.set(0, 1, 0);
        due("of YEARS 0", x.as(0, 0), 0);
    }

    public static void main(String[] args) {
        howMany();
        atFirst();
        atFirstAgain();
        top();
        kinds();
        strongOfCorks();
        strongOfSound();
        strongOfDry();
        gripsOfKinds();
        worthOfKinds();
        nothingComes();
        torn();
        breaks();
        fewerLeft();
        rangesOfCalls();
        ends0And24();
        noneLeft();
        warmThreeTimes();
        dealtAsRoomIs();
        drawnBottles();
        seeds();
        cellars();
        turned();
        ends();
    }
}
