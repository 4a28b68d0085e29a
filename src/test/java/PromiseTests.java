/** For each promise of the document: ordinary inputs, the edges that it names, and wrong inputs, with answers worked out by hand. */
public final class PromiseTests extends Checks {
    private static void promise1() {
        CorkBreaks x = new CorkBreaks();
        int[] counts = {0, 0, 50, 1, 0, 0, 0, 1};
        for (int k = 0; k < counts.length; k++) {
            due("1 count(" + k + ")", x.count(k), counts[k]);
        }
        for (int k = 0; k < 4; k++) {
            due("1 mark", x.mark(k, 0, 0), NOTHING);
        }
        for (int k = 0; k < 5; k++) {
            due("1 item", x.item(k, 0), NOTHING);
        }
        for (int k = 0; k < 3; k++) {
            due("1 why", x.why(k), NONE);
        }
        due("1 back", x.back(), NO);
        due("1 told", x.told(0, 0), BAD);
        due("1 cellar", x.cellar(0), 0);
        due("1 fee", x.fee(), 0);
    }

    private static void promise2() {
        CorkBreaks x = new CorkBreaks();
        int[][] bad = {{-1, 0, 0}, {6, 0, 0}, {0, -1, 0}, {0, 100, 0}, {0, 0, -1}, {0, 0, 2}, {MIN, 0, 0}, {0, MAX, 0}};
        for (int[] b : bad) {
            due("2 bad", x.bottle(b[0], b[1], b[2]), BAD);
        }
        due("2 count", x.count(0), 0);
        for (int k = 0; k < 8; k++) {
            due("2 bottle", x.bottle(k % 6, 99 - k, k % 2), k);
        }
        due("2 full", x.bottle(0, 0, 0), FULL);
        due("2 bad ahead of full", x.bottle(6, 0, 0), BAD);
        due("2 count", x.count(0), 8);
        for (int k = 0; k < 6; k++) {
            due("2 strength", x.layer(7, k, 0), 12);
            due("2 hold", x.layer(7, k, 1), 6);
        }
        int[] told = {1, 92, 1, 6, 0, 0};
        for (int k = 0; k < told.length; k++) {
            due("2 told " + k, x.told(7, k), told[k]);
        }
        // A number that was used and given back bears nothing of the one that had it.
        CorkBreaks y = new CorkBreaks();
        y.keep();
        y.bottle(3, 50, 1);
        y.warm(0);
        y.sets(0, 0, 0, 1);
        y.sets(0, 0, 1, 1);
        y.push(0);
        y.back();
        due("2 again", y.bottle(0, 0, 0), 0);
        int[] fresh = {0, 0, 0, 6, 0, 0, 36, 0};
        for (int k = 0; k < fresh.length; k++) {
            due("2 again " + k, y.told(0, k), fresh[k]);
        }
        due("2 again", y.layer(0, 0, 0), 12);
    }

    private static void promise3() {
        CorkBreaks x = ofKinds();
        int[] held = {36, 36, 54, 12, 60, 18};
        int[] worth = {5, 22, 74, 84, 48, 3};
        for (int k = 0; k < 6; k++) {
            due("3 kind", x.told(k, 0), k);
            due("3 years", x.told(k, 1), 10 * k + 5);
            due("3 lying", x.told(k, 2), k % 2);
            due("3 left", x.told(k, 3), 6);
            due("3 held " + k, x.told(k, 6), held[k]);
            due("3 worth " + k, x.told(k, 7), worth[k]);
        }
        x.set(4, 1, 99);
        due("3 worth below 0", x.told(4, 7), -6);
        x.warm(0);
        due("3 warm", x.told(0, 5), 1);
        due("3 held warm", x.told(0, 6), 18);
        x.push(0);
        due("3 left", x.told(0, 3), 0);
        due("3 crumbs", x.told(0, 4), 6);
        due("3 held of none", x.told(0, 6), 0);
        due("3 bad", x.told(6, 0), BAD);
        due("3 bad", x.told(-1, 0), BAD);
        due("3 bad", x.told(0, -1), BAD);
        due("3 bad", x.told(0, 8), BAD);
        // What is left are the last LAYERS: HELD is of those alone.
        layers(x, 1, 1, 1, 2, 3, 4, 5, 6);
        layers(x, 1, 0, 0, 0, 24, 24, 24, 24);
        due("3 pull", x.pull(1, 1, 999), 1);
        due("3 held of the last", x.told(1, 6), 20);
    }

    private static void promise4() {
        CorkBreaks x = ofKinds();
        int[] strong0 = {12, 18, 7, 9, 5, 12};
        int[] strong3 = {12, 18, 12, 9, 10, 12};
        int[] grips = {6, 6, 9, 2, 10, 3};
        for (int k = 0; k < 6; k++) {
            due("4 strong 0 of " + k, x.layer(k, 0, 2), strong0[k]);
            due("4 strong 2 of " + k, x.layer(k, 2, 2), strong0[k]);
            due("4 strong 3 of " + k, x.layer(k, 3, 2), strong3[k]);
            due("4 strong 5 of " + k, x.layer(k, 5, 2), strong3[k]);
            due("4 grips of " + k, x.layer(k, 4, 3), grips[k]);
        }
        for (int k = 0; k < 6; k++) {
            x.sets(k, 0, 0, 3);
            x.sets(k, 4, 0, 1);
            x.sets(k, 0, 1, 7);
            x.warm(k);
        }
        int[] weak0 = {3, 9, 0, 4, 0, 3};
        int[] weak4 = {1, 7, 1, 3, 0, 1};
        int[] warm = {4, 4, 7, 0, 8, 2};
        for (int k = 0; k < 6; k++) {
            due("4 weak 0 of " + k, x.layer(k, 0, 2), weak0[k]);
            due("4 weak 4 of " + k, x.layer(k, 4, 2), weak4[k]);
            due("4 warm of " + k, x.layer(k, 0, 3), warm[k]);
            x.warm(k);
            x.warm(k);
        }
        int[] hot = {0, 0, 3, 0, 4, 0};
        for (int k = 0; k < 6; k++) {
            due("4 hot of " + k, x.layer(k, 1, 3), hot[k]);
        }
        int[][] crumbly = {{0, 12}, {19, 12}, {20, 11}, {39, 11}, {40, 10}, {79, 9}, {80, 8}, {99, 8}};
        for (int[] c : crumbly) {
            x.set(4, 1, c[0]);
            due("4 crumbly of " + c[0], x.layer(4, 3, 2), c[1]);
        }
        due("4 strength", x.layer(0, 0, 0), 3);
        due("4 hold", x.layer(0, 0, 1), 7);
        int[][] bad = {{6, 0, 0}, {-1, 0, 0}, {0, 6, 0}, {0, -1, 0}, {0, 0, 4}, {0, 0, -1}};
        for (int[] b : bad) {
            due("4 bad", x.layer(b[0], b[1], b[2]), BAD);
        }
    }

    private static void promise5() {
        CorkBreaks x = ofKinds();
        due("5 sets", x.sets(2, 5, 0, 24), 12);
        due("5 sets", x.sets(2, 5, 0, 0), 24);
        due("5 sets", x.sets(2, 5, 1, 24), 6);
        due("5 sets", x.sets(2, 5, 1, 0), 24);
        due("5 strength", x.layer(2, 5, 0), 0);
        due("5 hold", x.layer(2, 5, 1), 0);
        due("5 the other layer", x.layer(2, 4, 0), 12);
        int[][] bad = {{6, 0, 0, 1}, {-1, 0, 0, 1}, {0, 6, 0, 1}, {0, -1, 0, 1}, {0, 0, 2, 1}, {0, 0, -1, 1}, {0, 0, 0, 25}, {0, 0, 1, -1}};
        for (int[] b : bad) {
            due("5 bad", x.sets(b[0], b[1], b[2], b[3]), BAD);
        }
        due("5 stays", x.layer(0, 0, 0), 12);
        due("5 stays", x.layer(0, 0, 1), 6);
    }

    private static void promise6() {
        CorkBreaks x = ofKinds();
        boolean[][] of = new boolean[6][6];
        for (int k = 0; k < 6; k++) {
            of[k][k] = true;
            of[k][0] = true;
        }
        of[3][1] = true;
        of[4][2] = true;
        for (int k = 0; k < 6; k++) {
            for (int n = 0; n < 6; n++) {
                due("6 as " + k + " " + n, x.as(k, n), of[k][n] ? 10 * k + 5 : KIND);
            }
        }
        due("6 bad", x.as(6, 0), BAD);
        due("6 bad", x.as(-1, 0), BAD);
        due("6 bad", x.as(0, 6), BAD);
        due("6 bad", x.as(0, -1), BAD);
    }

    private static void promise7() {
        CorkBreaks x = ofKinds();
        due("7 turns", x.turns(0, 4), 0);
        due("7 kind", x.told(0, 0), 4);
        due("7 held", x.told(0, 6), 60);
        due("7 worth", x.told(0, 7), 88);
        due("7 the same", x.turns(0, 4), 4);
        due("7 back", x.turns(0, 0), 4);
        due("7 bad", x.turns(0, 6), BAD);
        due("7 bad", x.turns(0, -1), BAD);
        due("7 bad", x.turns(6, 0), BAD);
        due("7 bad", x.turns(-1, 0), BAD);
        due("7 kind", x.told(0, 0), 0);
    }

    private static void promise8() {
        CorkBreaks x = ofKinds();
        due("8 years", x.set(1, 1, 99), 15);
        due("8 years", x.set(1, 1, 0), 99);
        due("8 lying", x.set(1, 2, 0), 1);
        due("8 lying", x.set(1, 2, 1), 0);
        int[][] bad = {{6, 1, 0}, {-1, 1, 0}, {0, 0, 0}, {0, 3, 0}, {0, 1, 100}, {0, 1, -1}, {0, 2, 2}, {0, 2, -1}};
        for (int[] b : bad) {
            due("8 bad", x.set(b[0], b[1], b[2]), BAD);
        }
        due("8 stays", x.told(0, 1), 5);
        due("8 stays", x.told(0, 2), 0);
        due("8 is", x.told(1, 1), 0);
        due("8 is", x.told(1, 2), 1);
    }

    private static void promise9() {
        CorkBreaks x = new CorkBreaks();
        x.bottle(0, 0, 0);
        due("9 too weak", x.pull(0, 6, 35), 0);
        due("9 stays", x.told(0, 3), 6);
        // HELD 36: LAYER 0 alone (12) is less than 18, so it comes as crumbs.
        due("9 tears", x.pull(0, 1, 36), 1);
        due("9 crumbs", x.told(0, 4), 3);
        // HELD 30: 12 is less than 15.
        due("9 tears", x.pull(0, 1, 30), 1);
        due("9 crumbs", x.told(0, 4), 6);
        // HELD 24: 12 is not less than 12; LAYER 2 is less than the 18 beneath it.
        due("9 breaks", x.pull(0, 1, 24), 1);
        due("9 crumbs", x.told(0, 4), 8);
        // HELD 18: LAYER 3 is not less than 12, nor are those beneath.
        due("9 draws", x.pull(0, 1, 18), 3);
        due("9 crumbs", x.told(0, 4), 8);
        due("9 left", x.told(0, 3), 0);
        due("9 none left", x.pull(0, 1, 18), NO);
        due("9 bad ahead of no", x.pull(0, 0, 18), BAD);
        x.bottle(0, 0, 0);
        // It breaks at the first LAYER from the last held on down: 3, though 0 .. 2 are weak too.
        layers(x, 1, 0, 9, 9, 24, 2, 24, 24);
        due("9 breaks lower", x.pull(1, 3, 36), 4);
        due("9 crumbs", x.told(1, 4), 2);
        due("9 deeper than what is left", x.pull(1, 6, 12), 2);
        x.bottle(0, 0, 0);
        due("9 all", x.pull(2, 6, 999), 6);
        x.bottle(0, 0, 0);
        layers(x, 3, 1, 0, 0, 0, 0, 0, 0);
        layers(x, 3, 0, 0, 0, 0, 0, 0, 0);
        due("9 no force needed", x.pull(3, 1, 0), 6);
        x.bottle(0, 0, 0);
        // HELD 37: half of it is cut to 18, and 18 is not less.
        layers(x, 4, 1, 7, 6, 6, 6, 6, 6);
        layers(x, 4, 0, 18, 24, 24, 24, 24, 24);
        due("9 half is cut", x.pull(4, 1, 999), 1);
        due("9 crumbs", x.told(4, 4), 2);
        int[][] bad = {{5, 1, 1}, {-1, 1, 1}, {4, 0, 1}, {4, 7, 1}, {4, 1, -1}, {4, 1, 1000}};
        for (int[] b : bad) {
            due("9 bad", x.pull(b[0], b[1], b[2]), BAD);
        }
        due("9 stays", x.told(4, 3), 5);
    }

    private static void promise10() {
        CorkBreaks x = ofKinds();
        x.pull(0, 1, 999);
        due("10 push", x.push(0), 5);
        due("10 crumbs", x.told(0, 4), 8);
        due("10 left", x.told(0, 3), 0);
        due("10 no", x.push(0), NO);
        due("10 crumbs", x.told(0, 4), 8);
        due("10 bad", x.push(6), BAD);
        due("10 bad", x.push(-1), BAD);
    }

    private static void promise11() {
        CorkBreaks x = ofKinds();
        due("11 warm", x.warm(5), 1);
        due("11 warm", x.warm(5), 2);
        due("11 warm", x.warm(5), 3);
        due("11 full", x.warm(5), FULL);
        due("11 is", x.told(5, 5), 3);
        due("11 the other", x.told(4, 5), 0);
        due("11 bad", x.warm(6), BAD);
        due("11 bad", x.warm(-1), BAD);
        x.push(0);
        due("11 with none left", x.warm(0), 1);
    }

    private static void promise12() {
        CorkBreaks x = new CorkBreaks();
        due("12 humid", x.rule(0, 100), 50);
        due("12 humid", x.rule(0, 0), 100);
        due("12 wear", x.rule(1, 5), 1);
        due("12 wear", x.rule(1, 0), 5);
        int[][] bad = {{-1, 0}, {2, 0}, {0, 101}, {0, -1}, {1, 6}, {1, -1}};
        for (int[] b : bad) {
            due("12 bad", x.rule(b[0], b[1]), BAD);
        }
        due("12 is", x.count(2), 0);
        due("12 is", x.count(3), 0);
    }

    private static void promise13() {
        CorkBreaks x = new CorkBreaks();
        due("13 one", x.deal(1), 1);
        for (int z = 0; z < 20; z++) {
            dealt(z * 1000003);
        }
    }

    private static void dealt(int z) {
        CorkBreaks x = new CorkBreaks();
        x.seed(z);
        Draws d = new Draws(z);
        due("13 bad", x.deal(0), BAD);
        due("13 bad", x.deal(9), BAD);
        due("13 bad", x.deal(-1), BAD);
        due("13 deal", x.deal(2), 2);
        x.bottle(0, 0, 0);
        due("13 deal", x.deal(8), 5);
        for (int k = 0; k < 8; k++) {
            if (k == 2) {
                continue;
            }
            due("13 kind", x.told(k, 0), d.next(6));
            due("13 years", x.told(k, 1), d.next(60));
            due("13 lying", x.told(k, 2), d.next(2));
            due("13 left", x.told(k, 3), 6);
            for (int n = 0; n < 6; n++) {
                due("13 strength", x.layer(k, n, 0), d.next(25));
                due("13 hold", x.layer(k, n, 1), 6);
            }
        }
        due("13 no draws for others", x.count(7), d.z);
        due("13 no room", x.deal(3), 0);
        due("13 no draws", x.count(7), d.z);
    }

    private static void promise14() {
        CorkBreaks x = new CorkBreaks();
        due("14 seed", x.seed(MIN), 1);
        due("14 seed", x.seed(-5), MIN);
        due("14 seed", x.seed(0), -5);
        due("14 z", x.count(7), 0);
        x.years(1);
        due("14 z", x.count(7), 12345);
    }

    private static void promise15() {
        CorkBreaks x = new CorkBreaks();
        due("15 bad", x.years(0), BAD);
        due("15 bad", x.years(101), BAD);
        due("15 bad", x.years(-1), BAD);
        Draws d = new Draws(1);
        int damp = 0;
        for (int k = 0; k < 100; k++) {
            damp += d.next(100) < 50 ? 1 : 0;
        }
        due("15 without bottles a draw a year", x.years(100), damp);
        due("15 z", x.count(7), d.z);
        due("15 year", x.count(1), 100);
        x.rule(0, 100);
        for (int k = 0; k < 98; k++) {
            due("15 damp", x.years(100), 100);
        }
        due("15 up to 9999", x.years(100), 99);
        due("15 year", x.count(1), 9999);
        int z = x.count(7);
        due("15 no more", x.years(1), 0);
        due("15 no draws", x.count(7), z);
        dampAndDry();
    }

    private static void dampAndDry() {
        for (int damp = 0; damp < 2; damp++) {
            CorkBreaks x = new CorkBreaks();
            x.bottle(0, 98, 0);
            x.bottle(1, 98, 1);
            x.bottle(2, 7, 0);
            x.bottle(3, 7, 1);
            x.push(2);
            x.push(3);
            x.rule(0, 100 * damp);
            x.rule(1, 4);
            Draws d = new Draws(1);
            int[][] strength = new int[4][6];
            for (int[] row : strength) {
                java.util.Arrays.fill(row, 12);
            }
            for (int k = 0; k < 20; k++) {
                d.next(100);
                strength[0][0] -= damp == 0 ? Math.min(4, strength[0][0]) : 0;
                int b = d.next(4);
                int n = d.next(6);
                strength[b][n] = Math.max(strength[b][n] - 1, 0);
                due("15 year", x.years(1), damp);
                for (int m = 0; m < 24; m++) {
                    due("15 strength", x.layer(m / 6, m % 6, 0), strength[m / 6][m % 6]);
                }
                due("15 hold of the lying", x.layer(1, 5, 1), damp == 1 ? Math.max(6 - 4 * (k + 1), 0) : 6);
                due("15 hold of others", x.layer(0, 5, 1) + x.layer(2, 5, 1) + x.layer(3, 5, 1) + x.layer(1, 4, 1), 24);
                due("15 z", x.count(7), d.z);
            }
            due("15 years", x.told(0, 1), 99);
            due("15 years", x.told(1, 1), 99);
            due("15 years of an opened one", x.told(2, 1), 7);
        }
    }

    private static void promise16() {
        CorkBreaks x = ofKinds();
        for (int k = 0; k < 3; k++) {
            due("16 of whole ones", x.cellar(k), k == 0 ? 36 : 0);
        }
        due("16 years", x.cellar(3), 180);
        x.push(1);
        x.push(5);
        x.pull(0, 1, 999);
        due("16 left", x.cellar(0), 23);
        due("16 crumbs", x.cellar(1), 15);
        due("16 set", x.cellar(2), 34);
        due("16 bad", x.cellar(4), BAD);
        due("16 bad", x.cellar(-1), BAD);
    }

    private static void promise17() {
        CorkBreaks x = new CorkBreaks();
        x.bottle(0, 0, 0);
        int[][] want = {{1, 3}, {2, 2}, {3, 2}, {6, 0}, {6, 0}, {6, 0}};
        for (int k = 0; k < 6; k++) {
            due("17 layers " + k, x.tried(0, k + 1, 36, 0), want[k][0]);
            due("17 crumbs " + k, x.tried(0, k + 1, 36, 1), want[k][1]);
            due("17 nothing comes", x.tried(0, k + 1, 35, 0), 0);
            due("17 nothing falls", x.tried(0, k + 1, 35, 1), 0);
        }
        due("17 no force", x.tried(0, 1, 0, 0), 0);
        due("17 nothing changes", x.told(0, 3), 6);
        due("17 nothing changes", x.told(0, 4), 0);
        int[][] bad = {{1, 1, 1, 0}, {-1, 1, 1, 0}, {0, 0, 1, 0}, {0, 7, 1, 0}, {0, 1, -1, 0}, {0, 1, 1000, 0}, {0, 1, 1, 2}, {0, 1, 1, -1}};
        x.push(0);
        for (int[] b : bad) {
            due("17 bad", x.tried(b[0], b[1], b[2], b[3]), BAD);
        }
        due("17 none", x.tried(0, 1, 1, 0), NONE);
    }

    private static void promise18() {
        CorkBreaks x = new CorkBreaks();
        x.bottle(0, 0, 0);
        due("18 depth", x.depth(0, 36, 0), 4);
        due("18 comes", x.depth(0, 36, 1), 6);
        due("18 nothing comes: the least", x.depth(0, 35, 0), 1);
        due("18 nothing comes", x.depth(0, 35, 1), 0);
        due("18 no force", x.depth(0, 0, 1), 0);
        // HELD 72 and 15 together at most: whatever the screw holds is torn, so most come by all of it.
        layers(x, 0, 0, 3, 3, 3, 3, 3, 0);
        layers(x, 0, 1, 12, 12, 12, 12, 12, 12);
        due("18 torn", x.depth(0, 999, 0), 6);
        due("18 torn", x.depth(0, 999, 1), 6);
        x.bottle(0, 0, 0);
        // HELD 24, half 12: depth 1 breaks at LAYER 1, 2 at 1, 3 at 2, 4 at 3, 5 at 4; 6 draws all.
        layers(x, 1, 0, 24, 0, 0, 0, 0, 24);
        layers(x, 1, 1, 0, 0, 0, 0, 0, 24);
        int[] come = {2, 2, 3, 4, 5, 6};
        for (int k = 0; k < 6; k++) {
            due("18 tried", x.tried(1, k + 1, 24, 0), come[k]);
        }
        due("18 all", x.depth(1, 24, 0), 6);
        x.bottle(0, 0, 0);
        // HELD 2, half 1: depth 1 tears LAYER 0, 2 tears 0 and 1, 3 draws all, and so do 4, 5, 6.
        layers(x, 2, 0, 0, 0, 1, 1, 1, 1);
        layers(x, 2, 1, 2, 0, 0, 0, 0, 0);
        due("18 of several the least", x.depth(2, 2, 0), 3);
        due("18 of several the least", x.depth(2, 2, 1), 6);
        x.bottle(0, 0, 0);
        // HELD 48, half 24, 23 together: the more the screw holds, the more are torn.
        layers(x, 3, 0, 0, 0, 0, 0, 0, 23);
        layers(x, 3, 1, 0, 0, 0, 0, 24, 24);
        due("18 tears all", x.depth(3, 48, 0), 6);
        due("18 tears all", x.tried(3, 6, 48, 1), 18);
        x.push(0);
        due("18 none", x.depth(0, 999, 0), NONE);
        int[][] bad = {{4, 1, 0}, {-1, 1, 0}, {0, -1, 0}, {0, 1000, 0}, {0, 1, 2}, {0, 1, -1}};
        for (int[] b : bad) {
            due("18 bad", x.depth(b[0], b[1], b[2]), BAD);
        }
        due("18 nothing changes", x.told(2, 3), 6);
    }

    private static void promise19() {
        CorkBreaks x = new CorkBreaks();
        x.bottle(0, 0, 0);
        due("19 one pull", x.tree(0, 36, 0), 0);
        due("19 one pull", x.tree(0, 36, 1), 1);
        due("19 none", x.tree(0, 35, 0), NONE);
        due("19 none", x.tree(0, 35, 1), NONE);
        // All STRENGTHS 0: the screw tears what it holds while HELD / 2 is above 0.
        // HELD 6 beneath: 1 LAYER left still has 0 < 3, so each LAYER tears: 18 CRUMBS, at once.
        layers(x, 0, 0, 0, 0, 0, 0, 0, 0);
        due("19 all torn", x.tree(0, 999, 0), 18);
        due("19 all torn", x.tree(0, 999, 1), 1);
        // HELD 30, half 15, 12 together: a first PULL tears at least LAYER 0; then HELD is 6, and 12 draw the rest.
        layers(x, 0, 0, 0, 0, 0, 0, 0, 12);
        layers(x, 0, 1, 24, 0, 0, 0, 0, 6);
        due("19 one torn, the rest drawn", x.tree(0, 30, 0), 3);
        due("19 one torn, the rest drawn", x.tree(0, 30, 1), 2);
        due("19 none", x.tree(0, 29, 0), NONE);
        // HELD 40, half 20, 19 together: LAYER 0 is torn, then 19 still are less than half of 39 (cut: 19)? They are not.
        layers(x, 0, 0, 0, 0, 0, 0, 0, 19);
        layers(x, 0, 1, 1, 0, 0, 0, 15, 24);
        due("19 half is cut", x.tree(0, 40, 0), 3);
        due("19 nothing changes", x.told(0, 3), 6);
        x.push(0);
        due("19 none left", x.tree(0, 0, 0), 0);
        due("19 none left", x.tree(0, 0, 1), 0);
        int[][] bad = {{1, 1, 0}, {-1, 1, 0}, {0, -1, 0}, {0, 1000, 0}, {0, 1, 2}, {0, 1, -1}};
        for (int[] b : bad) {
            due("19 bad", x.tree(b[0], b[1], b[2]), BAD);
        }
    }

    private static void promise20() {
        CorkBreaks x = ofKinds();
        due("20 now", x.behind(0, 0), 432);
        due("20 now", x.behind(0, 1), 216);
        x.rule(0, 100);
        x.rule(1, 2);
        // Damp alone: the three that lie lose 2 a year, till 0; those of KIND 1, 3, 5 lie.
        due("20 hold", x.behind(2, 1), 204);
        due("20 hold", x.behind(100, 1), 198);
        due("20 held", x.behind(2, 3), 32);
        due("20 held", x.behind(1, 5), 10);
        due("20 held of the last", x.behind(0, 7), 18);
        due("20 strength", x.behind(7, 0), 425);
        due("20 nothing changes", x.count(7), 1);
        due("20 nothing changes", x.count(1), 0);
        due("20 nothing changes", x.told(1, 6), 36);
        int[][] bad = {{-1, 0}, {101, 0}, {0, -1}, {0, 8}, {0, MAX}};
        for (int[] b : bad) {
            due("20 bad", x.behind(b[0], b[1]), BAD);
        }
        CorkBreaks late = new CorkBreaks();
        late.bottle(0, 0, 1);
        late.rule(1, 0);
        late.rule(0, 100);
        for (int k = 0; k < 100; k++) {
            late.years(100);
        }
        late.sets(0, 5, 0, 24);
        late.rule(1, 1);
        due("20 year", late.count(1), 9999);
        due("20 without the bound", late.behind(6, 1), 30);
    }

    private static void promise21() {
        CorkBreaks x = new CorkBreaks();
        x.bottle(0, 0, 1);
        x.rule(0, 100);
        // HELD 36 becomes 1 less each damp year: with FORCE 33 it comes behind 3 years.
        due("21 at once", x.when(0, 36, 0), 0);
        due("21 later", x.when(0, 33, 0), 3);
        due("21 last", x.when(0, 30, 0), 6);
        due("21 never", x.when(0, 29, 0), NONE);
        due("21 never", x.when(0, 29, 1), NONE);
        due("21 crumbs", x.when(0, 36, 1), 0);
        due("21 nothing changes", x.told(0, 6), 36);
        x.push(0);
        due("21 none left", x.when(0, 0, 0), 0);
        due("21 none left", x.when(0, 0, 1), 0);
        int[][] bad = {{1, 1, 0}, {-1, 1, 0}, {0, -1, 0}, {0, 1000, 0}, {0, 1, 2}, {0, 1, -1}};
        for (int[] b : bad) {
            due("21 bad", x.when(b[0], b[1], b[2]), BAD);
        }
        // The sixtieth year counts, the one behind it does not.
        for (int late = 0; late < 2; late++) {
            CorkBreaks y = new CorkBreaks();
            y.bottle(0, 39 - late, 0);
            due("21 text", text(y, "hard y>98"), 0);
            layers(y, 0, 1, 0, 0, 0, 0, 0, 2);
            due("21 the sixtieth", y.when(0, 2, 0), late == 0 ? 60 : 0);
        }
    }

    private static void promise22() {
        CorkBreaks x = ofKinds();
        due("22 the first", x.which(0, 999, 0), 0);
        due("22 of small force", x.which(0, 12, 0), 3);
        due("22 of small force", x.which(0, 18, 0), 3);
        due("22 of no force", x.which(0, 0, 0), NONE);
        x.push(3);
        due("22 those opened do not count", x.which(0, 18, 0), 5);
        due("22 crumbs", x.which(0, 18, 1), 0);
        due("22 none", x.which(0, 17, 0), NONE);
        due("22 none", x.which(0, 17, 1), NONE);
        x.rule(0, 100);
        x.rule(1, 5);
        // KIND 5 lies: HOLD 5 of LAYER 5 gone, (6 - 5) / 2 is 0, so HELD is 15.
        due("22 behind years", x.which(1, 15, 0), 5);
        layers(x, 0, 0, 0, 0, 0, 0, 0, 0);
        due("22 fewest", x.which(0, 36, 0), 1);
        int[][] bad = {{-1, 1, 0}, {61, 1, 0}, {0, -1, 0}, {0, 1000, 0}, {0, 1, 2}, {0, 1, -1}};
        for (int[] b : bad) {
            due("22 bad", x.which(b[0], b[1], b[2]), BAD);
        }
        due("22 of none", new CorkBreaks().which(0, 999, 0), NONE);
    }

    private static void promise23() {
        CorkBreaks x = new CorkBreaks();
        x.bottle(0, 0, 1);
        x.rule(0, 100);
        due("23 one of both", x.laid(0, 3, 33), NONE);
        due("23 neither", x.laid(0, 3, 20), NONE);
        due("23 alike", x.laid(0, 0, 36), 0);
        due("23 none left", pushedLaid(), 0);
        // Dry years, STRENGTH of LAYER 0 alone holds what stands beneath: it wears if the bottle stands.
        CorkBreaks y = new CorkBreaks();
        y.bottle(0, 0, 1);
        y.rule(0, 0);
        y.rule(1, 5);
        layers(y, 0, 0, 24, 0, 0, 0, 0, 0);
        layers(y, 0, 1, 0, 0, 0, 0, 20, 20);
        // Behind 3 dry years: 21 at least are not less than half of 40, so all come; 9 are less, and what the screw holds is torn.
        Draws d = new Draws(1);
        int[] lying = {24, 0, 0, 0, 0, 0};
        int[] stands = {24, 0, 0, 0, 0, 0};
        for (int k = 0; k < 3; k++) {
            d.next(100);
            stands[0] = Math.max(stands[0] - 5, 0);
            d.next(1);
            int n = d.next(6);
            lying[n] = Math.max(lying[n] - 1, 0);
            stands[n] = Math.max(stands[n] - 1, 0);
        }
        int asItIs = treeOf(y, lying);
        int otherWay = treeOf(y, stands);
        layers(y, 0, 0, 24, 0, 0, 0, 0, 0);
        due("23 lying", asItIs, 0);
        due("23 standing", otherWay > 0 ? 1 : 0, 1);
        due("23 laid", y.laid(0, 3, 999), asItIs - otherWay);
        y.set(0, 2, 0);
        due("23 the other way", y.laid(0, 3, 999), otherWay - asItIs);
        due("23 nothing changes", y.told(0, 2), 0);
        due("23 nothing changes", y.count(7), 1);
        int[][] bad = {{1, 0, 0}, {-1, 0, 0}, {0, -1, 0}, {0, 61, 0}, {0, 0, -1}, {0, 0, 1000}};
        for (int[] b : bad) {
            due("23 bad", y.laid(b[0], b[1], b[2]), BAD);
        }
    }

    private static int treeOf(CorkBreaks x, int[] strength) {
        layers(x, 0, 0, strength);
        return x.tree(0, 999, 0);
    }

    private static int pushedLaid() {
        CorkBreaks x = new CorkBreaks();
        x.bottle(0, 0, 1);
        x.push(0);
        return x.laid(0, 9, 0);
    }

    private static void promise24() {
        CorkBreaks x = ofKinds();
        x.sheet(0, 0, 6);
        for (int k = 0; k < 6; k++) {
            x.mark(0, k, 9);
        }
        due("24 dry", x.old(0, 0), 2);
        due("24 dry", x.old(0, 1), 0);
        x.mark(0, 3, -11);
        due("24 signs left out", x.old(0, 1), 20);
        x.sheet(1, 1, 24);
        for (int k = 0; k < 24; k++) {
            x.mark(1, k, NONE);
        }
        due("24 no numbers", x.old(1, 0), 0);
        due("24 no numbers", x.old(1, 1), 0);
        x.mark(1, 2, 3);
        due("24 one number", x.old(1, 0), 5);
        x.mark(1, 23, -40);
        due("24 beyond 5", x.old(1, 0), 5);
        due("24 beyond 5", x.old(1, 1), 40);
        x.sheet(2, 0, 0);
        due("24 no places", x.old(2, 0), 0);
        due("24 missing", x.old(3, 0), NOTHING);
        due("24 bad", x.old(4, 0), BAD);
        due("24 bad", x.old(-1, 0), BAD);
        due("24 bad ahead of nothing", x.old(3, 2), BAD);
        due("24 bad", x.old(0, -1), BAD);
        CorkBreaks y = new CorkBreaks();
        due("24 missing ahead of none", y.old(0, 0), NOTHING);
        y.sheet(0, 0, 1);
        due("24 no bottles", y.old(0, 0), NONE);
        due("24 no bottles", y.old(0, 1), NONE);
    }

    private static void promise25() {
        CorkBreaks x = ofKinds();
        x.push(0);
        x.push(1);
        due("25 without a text", x.fee(), 12);
        due("25 text", text(x, "fee c*100+y"), 0);
        due("25 fee", x.fee(), 1200);
        x.years(7);
        due("25 fee", x.fee(), 1207);
        due("25 text", text(x, "fee 0-c"), 1);
        due("25 the last counts", x.fee(), -12);
    }

    private static void promise26() {
        CorkBreaks x = ofKinds();
        due("26 without a text", x.fine(1), 6);
        x.push(1);
        due("26 without a text", x.fine(1), 0);
        due("26 text", text(x, "fine y*10+l"), 0);
        due("26 fine", x.fine(1), 150);
        due("26 fine", x.fine(2), 256);
        due("26 bad", x.fine(6), BAD);
        due("26 bad", x.fine(-1), BAD);
    }

    private static void promise27() {
        CorkBreaks x = new CorkBreaks();
        for (int k = 1; k <= 8; k++) {
            due("27 feed", x.feed(k, -k, MIN), 12 * k);
        }
        due("27 full", x.feed(0, 0, 0), FULL);
        due("27 stays", x.count(6), 96);
        x.trim(85);
        due("27 full", x.feed(0, 0, 0), FULL);
        x.trim(84);
        due("27 feed", x.feed(0, 0, 0), 96);
        // "hard" " 42 " "    ": the highest byte first.
        x.trim(0);
        x.bottle(0, 0, 0);
        due("27 feed", x.feed(0x68617264, 0x20343220, 0x20202020), 12);
        due("27 is a text", x.text(), 0);
        due("27 strong", x.layer(0, 0, 2), 42);
    }

    private static void promise28() {
        CorkBreaks x = new CorkBreaks();
        due("28 empty", x.trim(0), 0);
        due("28 bad", x.trim(1), BAD);
        x.feed(1, 2, 3);
        due("28 all", x.trim(12), 12);
        due("28 bad", x.trim(13), BAD);
        due("28 bad", x.trim(-1), BAD);
        due("28 trim", x.trim(5), 5);
        due("28 bad", x.trim(6), BAD);
        due("28 is", x.count(6), 5);
        put(x, "");
    }

    private static void fault(String text, int place) {
        CorkBreaks x = new CorkBreaks();
        due("29 text of '" + text + "'", text(x, text), -100 - place);
        due("29 none came of '" + text + "'", x.count(4), 0);
    }

    private static void gives(String e, int want) {
        CorkBreaks x = new CorkBreaks();
        due("29 text of " + e, text(x, "fee " + e), 0);
        due("29 " + e, x.fee(), want);
    }

    private static void promise29() {
        String[] faults = {"", "0", "   ", "3", "hard", "4", "hard ", "5", "hards", "0", "hard5", "4", "har", "0", "Hard s", "0",
            "hard sy", "5", "hard c", "5", "fee s", "4", "fine s", "5", "fee l", "4", "fine c", "5", "hard 12345", "5",
            "hard 1234 5", "10", "hard s s", "7", "hard s5", "6", "hard 5s", "6", "hard (s", "7", "hard (s))", "8", "hard )", "5",
            "hard s<y<l", "8", "hard s<y=1", "8", "hard s+", "7", "hard s+*y", "7", "hard !", "6", "hard -1", "5", "hard s!y", "6",
            "hard s +", "8", "hard s %y", "7", " hard s ?  ", "8", "hard s\ty", "6", "hard (s<1)<(y<2)>1", "16", "hard ()", "6",
            "fee hard", "4", "hard hard", "5", "hard s\0", "6", "hard s\u00ff", "6", "hard (s|)", "8", "hardhard", "0", "fee00012", "3",
            "12", "0", "7+7", "0", "(hard s)", "0", "hard z", "5", "hard sz", "5", "finez", "0", "fee az", "4"};
        for (int k = 0; k < faults.length; k += 2) {
            fault(faults[k], Integer.parseInt(faults[k + 1]));
        }
        fault("hard ((((((((( s", 13);
        fault("hard !!!!!!!!! s", 13);
        fault("hard !(!(!(!(!(!(!(!(!s", 21);
        fault("hard ((((((((s)))))))) + (((((((((s", 33);
        String[] values = {"((((((((7))))))))", "7", "!!!!!!!!7", "1", "!(!(!(!(!(!(!(!(7))))))))", "1", "!!!!!!!!0+!!!!!!!!5", "1",
            "((((((((1))))))))+((((((((2))))))))", "3", "1+2*3", "7", "(1+2)*3", "9", "10-3-4", "3", "100/7/2", "7", "7/0", "0",
            "0-7/2", "-3", "(0-7)/2", "-3", "5*3/2", "7", "5/2*3", "6", "1<2", "1", "2<1", "0", "2=2", "1", "2>2", "0", "3>2", "1",
            "5&3", "1", "5&0", "0", "0|0", "0", "0|9", "1", "1|0&0", "1", "!1+1", "1", "!0+1", "2", "!(1-1)", "1", "1+1=2&3>2|0", "1",
            "9999*9999*9999", "-1027349969", "0009", "9", "2-3<0", "1", "1<2+5", "1", "(1<2)+5", "6",
            "9999*9999*9999*9999/0", "0", "!c", "1", "c|y", "0", "20-3*2", "14", "20-6/2", "17", "2*3-4", "2", "2<2", "0", "0", "0", "5*0+1", "1"};
        for (int k = 0; k < values.length; k += 2) {
            gives(values[k], Integer.parseInt(values[k + 1]));
        }
        CorkBreaks x = new CorkBreaks();
        for (int k = 0; k < 14; k++) {
            due("29 number", text(x, "fine " + k), k);
        }
        due("29 full", text(x, "fine 1"), FULL);
        due("29 fault ahead of full", text(x, "fine 1 1"), -107);
        due("29 texts", x.count(4), 14);
        x.bottle(0, 0, 0);
        due("29 the last that came", x.fine(0), 13);
        longest();
        hardness();
        CorkBreaks y = new CorkBreaks();
        due("29 a fault", text(y, "fee (((((((("), -112);
        due("29 a fault", text(y, "fee !!!!!!!!"), -112);
        due("29 a fault leaves nothing open", text(y, "fee !!((7))"), 0);
        due("29 fault of a word", text(y, "fee 7"), 1);
        due("29 a word at the start needs no blank", text(y, "fee 7"), 2);
    }

    private static void longest() {
        StringBuilder text = new StringBuilder("fee 1");
        while (text.length() < 95) {
            text.append("+1");
        }
        gives(text.substring(4), 46);
        CorkBreaks x = new CorkBreaks();
        due("29 a blank at the end", text(x, text + " "), 0);
        fault(text + "+", 96);
    }

    private static void hardness() {
        CorkBreaks x = ofKinds();
        due("29 hard", text(x, "hard s*10+l-y"), 0);
        // 120 less YEARS 5, held within 99.
        due("29 held within 99", x.layer(0, 0, 2), 99);
        due("29 sound", x.layer(1, 0, 2), 105);
        x.sets(2, 1, 0, 5);
        due("29 dry", x.layer(2, 1, 2), 50 + 1 - 25 - 5);
        x.sets(3, 4, 0, 6);
        due("29 soaked", x.layer(3, 4, 2), (60 + 4 - 35 + 6) / 2);
        x.sets(4, 5, 0, 7);
        due("29 crumbly", x.layer(4, 5, 2), 70 + 5 - 45 - 2);
        x.sets(5, 3, 0, 0);
        due("29 held within 0", x.layer(5, 3, 2), 0);
        x.sets(1, 3, 0, 0);
        due("29 sound of 0", x.layer(1, 3, 2), 6);
        due("29 hard", text(x, "hard 0"), 1);
        due("29 0 is a number", x.layer(0, 5, 2), 0);
        due("29 hard", text(x, "hard 1"), 2);
        due("29 it counts for pulls", x.tried(0, 4, 36, 1), 12);
        due("29 it counts for trees", x.tree(0, 36, 0) > 0 ? 1 : 0, 1);
    }

    private static void promise30() {
        CorkBreaks x = new CorkBreaks();
        text(x, "hard s+y*l-(12/!3)");
        text(x, "fee 1");
        text(x, "fine y|l");
        int[] operands = {5, 1, 2};
        for (int k = 0; k < 3; k++) {
            due("30 key", x.textTold(k, 0), k);
            due("30 operands", x.textTold(k, 1), operands[k]);
        }
        due("30 bad", x.textTold(3, 0), BAD);
        due("30 bad", x.textTold(-1, 0), BAD);
        due("30 bad", x.textTold(0, 2), BAD);
        due("30 bad", x.textTold(0, -1), BAD);
    }

    private static void promise31() {
        CorkBreaks x = new CorkBreaks();
        text(x, "fine 1");
        text(x, "hard 1");
        text(x, "fine 2");
        due("31 hard", x.why(0), 1);
        due("31 fee", x.why(1), NONE);
        due("31 fine", x.why(2), 2);
        due("31 bad", x.why(3), BAD);
        due("31 bad", x.why(-1), BAD);
    }

    private static void promise32() {
        CorkBreaks x = new CorkBreaks();
        due("32 sheet", x.sheet(0, 0, 24), 24);
        due("32 sheet", x.sheet(3, 1, 0), 0);
        due("32 no places", x.mark(3, 0, 1), INDEX);
        due("32 the last", x.mark(0, 23, 7), 1);
        due("32 anew", x.sheet(0, 0, 24), 24);
        x.lay(0, 2, 0);
        due("32 all 0", x.item(0, 23), 0);
        due("32 missing, n any", x.sheet(0, -1, 25), 0);
        due("32 missing, n any", x.sheet(0, -1, -1), 0);
        due("32 missing", x.mark(0, 0, 0), NOTHING);
        due("32 bad", x.sheet(4, 0, 1), BAD);
        due("32 bad", x.sheet(-1, 0, 1), BAD);
        due("32 bad", x.sheet(0, 2, 1), BAD);
        due("32 bad", x.sheet(0, -2, 1), BAD);
        due("32 bad", x.sheet(0, 0, 25), BAD);
        due("32 size", x.sheet(0, 0, -1), SIZE);
        due("32 size", x.sheet(0, 1, MIN), SIZE);
        due("32 bad ahead of size", x.sheet(0, 2, -1), BAD);
        due("32 bad ahead of size", x.sheet(4, 0, -1), BAD);
    }

    private static void promise33() {
        CorkBreaks x = new CorkBreaks();
        x.sheet(0, 0, 3);
        x.sheet(1, 1, 3);
        int[][] shorts = {{32767, 32767}, {32768, -32768}, {65535, -1}, {65536, 0}, {-32769, 32767}, {MIN, 0}, {MAX, -1}, {-7, -7}};
        for (int[] s : shorts) {
            due("33 mark", x.mark(0, 1, s[0]), 1);
            x.lay(0, 2, 0);
            due("33 short", x.item(0, 1), s[1]);
        }
        due("33 kind", x.mark(0, 1, NONE), KIND);
        due("33 mark", x.mark(1, 2, 99999), 1);
        due("33 bad float", x.mark(1, 2, 100000), BAD);
        x.lay(0, 2, 1);
        due("33 float", x.item(0, 2), 99999);
        due("33 mark", x.mark(1, 2, -99999), 1);
        due("33 bad float", x.mark(1, 2, -100000), BAD);
        x.lay(0, 2, 1);
        due("33 float", x.item(0, 2), -99999);
        due("33 no number", x.mark(1, 0, NONE), 1);
        x.lay(0, 2, 1);
        due("33 no number", x.item(0, 0), KIND);
        due("33 bad", x.mark(4, 0, 0), BAD);
        due("33 bad", x.mark(-1, 0, 0), BAD);
        due("33 nothing", x.mark(2, 9, NONE), NOTHING);
        due("33 index", x.mark(0, 3, 0), INDEX);
        due("33 index ahead of kind", x.mark(0, -1, NONE), INDEX);
        due("33 index ahead of bad", x.mark(1, 3, 100000), INDEX);
    }

    private static void promise34() {
        CorkBreaks x = ofKinds();
        x.sheet(0, 1, 5);
        int[] v = {6, 25, NONE, -3, 24};
        for (int k = 0; k < 5; k++) {
            x.mark(0, k, v[k]);
        }
        due("34 pour", x.pour(1, 0), 3);
        int[] hold = {6, 24, 6, 0, 24, 6};
        for (int k = 0; k < 6; k++) {
            due("34 hold", x.layer(1, k, 1), hold[k]);
        }
        due("34 again", x.pour(1, 0), 0);
        due("34 the other", x.layer(0, 1, 1), 6);
        x.sheet(1, 0, 24);
        due("34 zeros", x.pour(1, 1), 5);
        x.sheet(1, 0, 0);
        due("34 no places", x.pour(1, 1), 0);
        due("34 nothing", x.pour(1, 2), NOTHING);
        due("34 bad", x.pour(6, 0), BAD);
        due("34 bad", x.pour(-1, 0), BAD);
        due("34 bad", x.pour(0, 4), BAD);
        due("34 bad", x.pour(0, -1), BAD);
        due("34 bad ahead of nothing", x.pour(6, 2), BAD);
    }

    private static void promise35() {
        CorkBreaks x = ofKinds();
        x.sheet(0, 1, 8);
        for (int k = 0; k < 6; k++) {
            x.mark(0, k, 12);
        }
        due("35 beyond 5", x.reads(0, 0), 6);
        x.mark(0, 6, NONE);
        due("35 beyond 5", x.reads(0, 0), 7);
        x.mark(0, 7, NONE);
        due("35 none", x.reads(0, 0), NONE);
        x.mark(0, 2, NONE);
        x.sets(0, 2, 0, 3);
        due("35 of numbers alone", x.reads(0, 0), NONE);
        x.sets(0, 5, 0, 3);
        due("35 the last", x.reads(0, 0), 5);
        due("35 of the other", x.reads(1, 0), NONE);
        x.sheet(1, 0, 0);
        due("35 no places", x.reads(0, 1), NONE);
        due("35 nothing", x.reads(0, 2), NOTHING);
        due("35 bad", x.reads(6, 0), BAD);
        due("35 bad", x.reads(-1, 2), BAD);
        due("35 bad", x.reads(0, 4), BAD);
        due("35 bad", x.reads(0, -1), BAD);
    }

    private static void places(CorkBreaks x, int sheet, int... want) {
        x.lay(4, 2, sheet);
        for (int k = 0; k < want.length; k++) {
            due("36 place " + k + " of " + sheet, x.item(4, k), want[k]);
        }
        due("36 no more", x.item(4, want.length), INDEX);
    }

    private static void promise36() {
        CorkBreaks x = new CorkBreaks();
        x.sheet(0, 0, 5);
        x.sheet(1, 0, 3);
        x.sheet(2, 1, 3);
        for (int k = 0; k < 5; k++) {
            x.mark(0, k, k + 1);
        }
        due("36 copy", x.copy(0, 3, 1, 1, 2), 2);
        places(x, 1, 0, 4, 5);
        due("36 onto itself", x.copy(0, 0, 0, 1, 4), 4);
        places(x, 0, 1, 1, 2, 3, 4);
        due("36 onto itself", x.copy(0, 1, 0, 0, 4), 4);
        places(x, 0, 1, 2, 3, 4, 4);
        due("36 none at the end", x.copy(0, 5, 1, 3, 0), 0);
        int[][] index = {{0, 6, 1, 0, 0}, {0, -1, 1, 0, 0}, {0, 0, 1, 4, 0}, {0, 0, 1, -1, 0}, {0, 0, 1, 0, 4}, {0, 4, 1, 0, 2},
            {0, 0, 1, 2, 2}, {0, 0, 1, 0, -1}, {0, 0, 1, 0, MAX}, {0, MAX, 1, MAX, MAX}, {0, 0, 1, 0, MIN}};
        for (int[] c : index) {
            due("36 index", x.copy(c[0], c[1], c[2], c[3], c[4]), INDEX);
        }
        places(x, 1, 0, 4, 5);
        due("36 kind ahead of index", x.copy(0, 9, 2, 0, 1), KIND);
        due("36 kind", x.copy(2, 0, 1, 0, 0), KIND);
        due("36 nothing", x.copy(3, 0, 1, 0, 0), NOTHING);
        due("36 nothing ahead of index", x.copy(0, 9, 3, 0, 0), NOTHING);
        due("36 bad", x.copy(4, 0, 3, 0, 0), BAD);
        due("36 bad", x.copy(3, 0, 4, 0, 0), BAD);
        due("36 bad", x.copy(-1, 0, 0, 0, 0), BAD);
        due("36 bad", x.copy(0, 0, -1, 0, 0), BAD);
        x.mark(2, 1, NONE);
        due("36 no number comes too", x.copy(2, 1, 2, 0, 1), 1);
        x.lay(0, 2, 2);
        due("36 no number comes too", x.item(0, 0), KIND);
    }

    private static void promise37() {
        CorkBreaks x = ofKinds();
        x.sheet(0, 0, 2);
        due("37 lay", x.lay(0, 1, 5), 0);
        due("37 lay", x.lay(0, 2, 0), 1);
        due("37 lay", x.lay(0, 3, MIN), 2);
        due("37 lay", x.lay(0, 0, MIN), 3);
        due("37 lay", x.lay(0, 0, 0), 0);
        due("37 nothing", x.lay(4, 2, 1), NOTHING);
        int[][] bad = {{5, 0, 0}, {-1, 0, 0}, {0, 4, 0}, {0, -1, 0}, {0, 1, 6}, {0, 1, -1}, {0, 2, 4}, {0, 2, -1}};
        for (int[] b : bad) {
            due("37 bad", x.lay(b[0], b[1], b[2]), BAD);
        }
        x.mark(0, 0, 9);
        x.lay(1, 2, 0);
        x.lay(2, 1, 1);
        x.mark(0, 0, 1);
        x.sheet(0, -1, 0);
        x.set(1, 1, 99);
        x.turns(1, 5);
        due("37 the sheet as it was", x.item(1, 0), 9);
        due("37 the bottle as it was", x.ask(2, 1), 22);
        x.keep();
        x.lay(2, 3, 8);
        x.back();
        due("37 slots stay", x.rest(2, 5), 3);
        due("37 a refusal changes nothing", x.lay(2, 2, 0), NOTHING);
        due("37 a refusal changes nothing", x.rest(2, 5), 3);
    }

    private static void promise38() {
        CorkBreaks x = ofKinds();
        int[] worth = {5, 22, 74, 84, 48, 3};
        for (int k = 0; k < 6; k++) {
            x.lay(0, 1, k);
            due("38 as a cork " + k, x.ask(0, 0), worth[k]);
            due("38 as its own " + k, x.ask(0, k), worth[k]);
            due("38 as dry " + k, x.ask(0, 2), k == 2 || k == 4 ? worth[k] : KIND);
            due("38 as sound " + k, x.ask(0, 1), k == 1 || k == 3 ? worth[k] : KIND);
        }
        x.lay(0, 3, 5);
        due("38 a number", x.ask(0, 0), KIND);
        due("38 nothing", x.ask(1, 0), NOTHING);
        due("38 bad", x.ask(1, 6), BAD);
        due("38 bad", x.ask(1, -1), BAD);
        due("38 bad", x.ask(5, 0), BAD);
        due("38 bad", x.ask(-1, 0), BAD);
    }

    private static void promise39() {
        CorkBreaks x = ofKinds();
        x.sheet(0, 1, 2);
        x.mark(0, 1, NONE);
        x.lay(0, 2, 0);
        due("39 item", x.item(0, 0), 0);
        due("39 no number", x.item(0, 1), KIND);
        due("39 index", x.item(0, 2), INDEX);
        due("39 index", x.item(0, -1), INDEX);
        x.lay(1, 1, 0);
        due("39 a bottle", x.item(1, 9), KIND);
        x.lay(1, 3, 0);
        due("39 a number", x.item(1, 0), KIND);
        due("39 nothing", x.item(2, 9), NOTHING);
        due("39 bad", x.item(5, 0), BAD);
        due("39 bad", x.item(-1, 0), BAD);
    }

    private static void promise40() {
        CorkBreaks x = ofKinds();
        x.lay(0, 3, -17);
        due("40 rest", x.rest(0, 5), -2);
        due("40 rest", x.rest(0, -5), -2);
        due("40 rest", x.rest(0, MIN), -17);
        due("40 by 0", x.rest(0, 0), NO);
        x.lay(0, 3, MIN);
        due("40 rest", x.rest(0, -1), 0);
        x.lay(1, 1, 0);
        due("40 kind ahead of no", x.rest(1, 0), KIND);
        due("40 nothing", x.rest(2, 0), NOTHING);
        due("40 bad", x.rest(5, 0), BAD);
        due("40 bad", x.rest(-1, 0), BAD);
    }

    private static void promise41() {
        CorkBreaks x = new CorkBreaks();
        for (int k = 1; k <= 60; k++) {
            due("41 tell", x.tell(-k), k);
        }
        due("41 full", x.tell(0), FULL);
        due("41 wait", x.count(5), 60);
    }

    private static int checked(CorkBreaks x, int n, int... told) {
        for (int v : told) {
            x.tell(v);
        }
        int answer = x.check(n);
        due("42 none wait", x.count(5), 0);
        return answer;
    }

    private static void promise42() {
        CorkBreaks x = new CorkBreaks();
        x.bottle(0, 0, 1);
        x.rule(0, 100);
        due("42 bad", checked(x, 0, 1), BAD);
        due("42 bad", checked(x, 31, 1), BAD);
        due("42 no", checked(x, 30, 1), NO);
        x.keep();
        x.rule(0, 0);
        x.seed(5);
        x.bottle(1, 0, 0);
        due("42 right", checked(x, 1, 71, 35), 0);
        due("42 right", checked(x, 3, 71, 35, 70, 34, 69, 33), 0);
        due("42 first", checked(x, 1, 70, 35), 1);
        due("42 second", checked(x, 1, 71, 36), 2);
        due("42 fifth", checked(x, 3, 71, 35, 70, 34, 68, 33), 5);
        due("42 missing", checked(x, 1), 1);
        due("42 missing", checked(x, 1, 71), 2);
        due("42 missing", checked(x, 2, 71, 35), 3);
        due("42 too many", checked(x, 1, 71, 35, 70), 3);
        due("42 nothing changes", x.count(7), 5);
        int[] told = new int[60];
        x.back();
        for (int k = 0; k < 30; k++) {
            told[2 * k] = x.behind(k + 1, 0);
            told[2 * k + 1] = x.behind(k + 1, 1);
        }
        due("42 thirty", checked(x, 30, told), 0);
        told[59]++;
        due("42 the last", checked(x, 30, told), 60);
        for (int k = 0; k < 99; k++) {
            x.years(100);
        }
        x.years(97);
        x.keep();
        due("42 the end of years", checked(x, 30, x.behind(1, 0), x.behind(1, 1), x.behind(2, 0), x.behind(2, 1)), 0);
        due("42 beyond the end", checked(x, 3, x.behind(1, 0), x.behind(1, 1), x.behind(2, 0), x.behind(2, 1), 0), 5);
        x.years(2);
        due("42 by the image", checked(x, 1), 1);
        x.keep();
        due("42 no years", checked(x, 30), 0);
        due("42 no years", checked(x, 30, 0), 1);
    }

    private static void promise43() {
        CorkBreaks x = new CorkBreaks();
        due("43 keep", x.keep(), 0);
        x.deal(3);
        due("43 keep", x.keep(), 3);
        x.deal(2);
        due("43 the later one", x.back(), 3);
    }

    private static void promise44() {
        CorkBreaks x = ofKinds();
        due("44 no", x.back(), NO);
        text(x, "fine l+1");
        x.warm(2);
        x.pull(1, 6, 999);
        x.years(3);
        x.sheet(0, 0, 1);
        int[] kept = new int[8];
        for (int k = 0; k < 8; k++) {
            kept[k] = x.count(k);
        }
        x.keep();
        for (int again = 0; again < 2; again++) {
            spoil(x);
            due("44 back", x.back(), 6);
            for (int k = 0; k < 8; k++) {
                due("44 count " + k, x.count(k), k == 5 || k == 6 ? 1 + again : kept[k]);
            }
            due("44 warm", x.told(2, 5), 1);
            due("44 kind", x.told(0, 0), 0);
            due("44 strength", x.layer(0, 3, 0), 12);
            due("44 hold", x.layer(0, 3, 1), 6);
            due("44 lying", x.told(4, 2), 0);
            due("44 years", x.told(4, 1), 48);
            due("44 left", x.told(3, 3), 6);
            due("44 crumbs", x.told(3, 4), 0);
            due("44 text", x.fine(0), 7);
            due("44 why", x.why(1), NONE);
            due("44 why", x.why(2), 0);
            due("44 the sheet stays", x.mark(0, 5, 0), 1);
        }
        due("44 texts go on from there", text2(x), 1);
    }

    private static int text2(CorkBreaks x) {
        x.trim(0);
        return text(x, "fee 3");
    }

    private static void spoil(CorkBreaks x) {
        x.trim(0);
        text(x, "fine 9");
        text(x, "fee 9");
        x.warm(2);
        x.turns(0, 5);
        x.sets(0, 3, 0, 1);
        x.sets(0, 3, 1, 1);
        x.set(4, 2, 1);
        x.set(4, 1, 1);
        x.push(3);
        x.bottle(0, 0, 0);
        x.years(5);
        x.rule(0, 9);
        x.rule(1, 4);
        x.seed(99);
        x.sheet(0, 0, 6);
        x.tell(5);
        x.feed(1, 1, 1);
        x.trim(x.count(5));
    }

    private static void promise45() {
        CorkBreaks x = ofKinds();
        x.years(4);
        x.rule(0, 33);
        x.rule(1, 3);
        text(x, "fee 1");
        text(x, "fee 2");
        x.tell(1);
        x.tell(1);
        x.tell(1);
        x.feed(1, 2, 3);
        x.seed(-77);
        int[] counts = {6, 4, 33, 3, 2, 3, 12, -77};
        for (int k = 0; k < 8; k++) {
            due("45 count " + k, x.count(k), counts[k]);
        }
        due("45 bad", x.count(8), BAD);
        due("45 bad", x.count(-1), BAD);
    }

    public static void main(String[] args) {
        promise1();
        promise2();
        promise3();
        promise4();
        promise5();
        promise6();
        promise7();
        promise8();
        promise9();
        promise10();
        promise11();
        promise12();
        promise13();
        promise14();
        promise15();
        promise16();
        promise17();
        promise18();
        promise19();
        promise20();
        promise21();
        promise22();
        promise23();
        promise24();
        promise25();
        promise26();
        promise27();
        promise28();
        promise29();
        promise30();
        promise31();
        promise32();
        promise33();
        promise34();
        promise35();
        promise36();
        promise37();
        promise38();
        promise39();
        promise40();
        promise41();
        promise42();
        promise43();
        promise44();
        promise45();
        ends();
    }
}
