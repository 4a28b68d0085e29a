import java.util.ArrayDeque;
import java.util.ArrayList;
import java.util.Arrays;
import java.util.Deque;
import java.util.List;
import java.util.Random;

/** A second model of the document, written for plainness alone, is asked the same random calls as the class. */
public final class ModelTests {
    static final int BAD = -1000000001, NO = -1000000002, FULL = -1000000003, NONE = -1000000005;
    static final int NOTHING = -1000000011, KIND = -1000000012, INDEX = -1000000013, SIZE = -1000000014;

    /** What a model's call throws to be refused. */
    static final class Refused extends RuntimeException {
        private static final long serialVersionUID = 1L;
        final int answer;

        Refused(int answer) {
            super(null, null, false, false);
            this.answer = answer;
        }
    }

    static void refuse(boolean when, int answer) {
        if (when) {
            throw new Refused(answer);
        }
    }

    static boolean out(int v, int least, int most) {
        return v < least || v > most;
    }

    // ---- KINDS, as classes under one another

    static class Cork {
        int strong(Bottle b, int layer, World w) {
            Law law = w.law(0);
            return law == null ? b.strength[layer] : Math.max(0, Math.min(99, law.value(b.strength[layer], b.years, layer)));
        }

        int grips(Bottle b, int layer) {
            return Math.max(0, b.hold[layer] - 3 * b.warm);
        }

        int worth(Bottle b) {
            return b.years;
        }
    }

    static class Sound extends Cork {
        @Override int strong(Bottle b, int layer, World w) {
            return super.strong(b, layer, w) + 6;
        }

        @Override int worth(Bottle b) {
            return super.worth(b) + 7;
        }
    }

    static class Soaked extends Sound {
        @Override int strong(Bottle b, int layer, World w) {
            return super.strong(b, layer, w) / 2;
        }

        @Override int grips(Bottle b, int layer) {
            return Math.max(0, super.grips(b, layer) - 4);
        }

        @Override int worth(Bottle b) {
            return 2 * super.worth(b);
        }
    }

    static class Dry extends Cork {
        @Override int strong(Bottle b, int layer, World w) {
            int s = super.strong(b, layer, w);
            return layer == 0 || layer == 1 || layer == 2 ? Math.max(0, s - 5) : s;
        }

        @Override int grips(Bottle b, int layer) {
            return super.grips(b, layer) + 3;
        }

        @Override int worth(Bottle b) {
            return 99 - b.years;
        }
    }

    static class Crumbly extends Dry {
        @Override int strong(Bottle b, int layer, World w) {
            return Math.max(0, super.strong(b, layer, w) - b.years / 20);
        }

        @Override int grips(Bottle b, int layer) {
            return super.grips(b, layer) + 1;
        }

        @Override int worth(Bottle b) {
            return super.worth(b) - 6;
        }
    }

    static class Musty extends Cork {
        @Override int grips(Bottle b, int layer) {
            return super.grips(b, layer) / 2;
        }

        @Override int worth(Bottle b) {
            return 3;
        }
    }

    static final Cork[] KINDS = {new Cork(), new Sound(), new Dry(), new Soaked(), new Crumbly(), new Musty()};

    static final class Bottle {
        int kind, years, lying, left = 6, crumbs, warm;
        int[] strength = {12, 12, 12, 12, 12, 12}, hold = {6, 6, 6, 6, 6, 6};

        Bottle(int kind, int years, int lying) {
            this.kind = kind;
            this.years = years;
            this.lying = lying;
        }

        Bottle twin() {
            Bottle b = new Bottle(kind, years, lying);
            b.left = left;
            b.crumbs = crumbs;
            b.warm = warm;
            b.strength = strength.clone();
            b.hold = hold.clone();
            return b;
        }

        int grips(int layer) {
            return KINDS[kind].grips(this, layer);
        }

        int held() {
            return gripsBeneath(5 - left);
        }

        int gripsBeneath(int layer) {
            int sum = 0;
            for (int k = layer + 1; k < 6; k++) {
                sum += grips(k);
            }
            return sum;
        }

        boolean of(int k) {
            return KINDS[k].getClass().isInstance(KINDS[kind]);
        }

        /** A PULL, really done: how many LAYERS come. */
        int pull(int depth, int force, World w) {
            if (force < held()) {
                return 0;
            }
            List<Integer> screwed = new ArrayList<>();
            for (int k = 6 - left; k < 6 && screwed.size() < depth; k++) {
                screwed.add(k);
            }
            int sum = 0;
            for (int k : screwed) {
                sum += KINDS[kind].strong(this, k, w);
            }
            int came = left;
            if (sum < held() / 2) {
                came = screwed.size();
                crumbs += 3 * came;
            } else {
                for (int k = screwed.get(screwed.size() - 1); k < 6; k++) {
                    if (KINDS[kind].strong(this, k, w) < gripsBeneath(k)) {
                        came = k - (6 - left) + 1;
                        crumbs += 2;
                        break;
                    }
                }
            }
            left -= came;
            return came;
        }

        /** Every way of pulling, tried out: {CRUMBS more, PULLS}, or null. */
        int[] tree(int force, World w) {
            if (left == 0) {
                return new int[] {0, 0};
            }
            int[] best = null;
            for (int depth = 1; depth <= 6; depth++) {
                Bottle b = twin();
                if (b.pull(depth, force, w) == 0) {
                    continue;
                }
                int[] then = b.tree(force, w);
                if (then == null) {
                    continue;
                }
                int[] all = {b.crumbs - crumbs + then[0], 1 + then[1]};
                if (best == null || all[0] < best[0] || all[0] == best[0] && all[1] < best[1]) {
                    best = all;
                }
            }
            return best;
        }
    }

    /** What AN IMAGE keeps. */
    static final class World {
        List<Bottle> bottles = new ArrayList<>();
        List<Law> laws = new ArrayList<>();
        int humid = 50, wear = 1, year = 0, z = 1;

        World twin() {
            World w = new World();
            for (Bottle b : bottles) {
                w.bottles.add(b.twin());
            }
            w.laws.addAll(laws);
            w.humid = humid;
            w.wear = wear;
            w.year = year;
            w.z = z;
            return w;
        }

        int whichLaw(int key) {
            for (int k = laws.size() - 1; k >= 0; k--) {
                if (laws.get(k).key == key) {
                    return k;
                }
            }
            return NONE;
        }

        Law law(int key) {
            return whichLaw(key) == NONE ? null : laws.get(whichLaw(key));
        }

        int draw() {
            z = z * 1103515245 + 12345;
            return z >>> 8;
        }

        boolean year() {
            boolean damp = draw() % 100 < humid;
            for (Bottle b : bottles) {
                if (b.left == 6) {
                    b.years = Math.min(99, b.years + 1);
                    if (damp && b.lying == 1) {
                        b.hold[5] = Math.max(0, b.hold[5] - wear);
                    }
                    if (!damp && b.lying == 0) {
                        b.strength[0] = Math.max(0, b.strength[0] - wear);
                    }
                }
            }
            if (!bottles.isEmpty()) {
                int first = draw();
                int second = draw();
                int[] s = bottles.get(first % bottles.size()).strength;
                s[second % 6] = Math.max(0, s[second % 6] - 1);
            }
            year++;
            return damp;
        }

        World behind(int n) {
            World w = twin();
            for (int k = 0; k < n; k++) {
                w.year();
            }
            return w;
        }

        int strengths() {
            return bottles.stream().mapToInt(b -> Arrays.stream(b.strength).sum()).sum();
        }

        int holds() {
            return bottles.stream().mapToInt(b -> Arrays.stream(b.hold).sum()).sum();
        }

        int crumbs() {
            return bottles.stream().mapToInt(b -> b.crumbs).sum();
        }
    }

    // ---- TEXTS: a machine of brackets finds the FAULT, splitting at the loosest sign gives the value

    static final class Law {
        int key;
        List<String> words = new ArrayList<>();

        int operands() {
            return (int) words.stream().filter(w -> Character.isLetterOrDigit(w.charAt(0))).count();
        }

        int value(int... names) {
            return value(0, words.size(), names);
        }

        private int value(int from, int to, int[] names) {
            for (String level : new String[] {"|", "&", "<=>", "+-", "*/"}) {
                int open = 0;
                for (int k = to - 1; k > from; k--) {
                    String w = words.get(k);
                    open += w.equals(")") ? 1 : w.equals("(") ? -1 : 0;
                    if (open == 0 && level.contains(w)) {
                        return join(w.charAt(0), value(from, k, names), value(k + 1, to, names));
                    }
                }
            }
            String w = words.get(from);
            if (w.equals("!")) {
                return value(from + 1, to, names) == 0 ? 1 : 0;
            }
            if (w.equals("(")) {
                return value(from + 1, to - 1, names);
            }
            return Character.isDigit(w.charAt(0)) ? Integer.parseInt(w) : names[NAMES[key].indexOf(w)];
        }

        private static int join(char sign, int a, int b) {
            boolean left = a != 0;
            boolean right = b != 0;
            switch (sign) {
                case '|': return left || right ? 1 : 0;
                case '&': return left && right ? 1 : 0;
                case '<': return a < b ? 1 : 0;
                case '=': return a == b ? 1 : 0;
                case '>': return a > b ? 1 : 0;
                case '+': return a + b;
                case '-': return a - b;
                case '*': return a * b;
                default: return b == 0 ? 0 : a / b;
            }
        }
    }

    static final String[] NAMES = {"syl", "cy", "yl"};
    static final List<String> KEYS = List.of("hard", "fee", "fine");

    static boolean letter(char c) {
        return c >= 'a' && c <= 'z';
    }

    static boolean digit(char c) {
        return c >= '0' && c <= '9';
    }

    /** Fills the law; answers the place of the FAULT, or -1. */
    static int read(String tape, Law law) {
        Deque<Character> open = new ArrayDeque<>();
        Deque<Boolean> tested = new ArrayDeque<>();
        tested.push(false);
        boolean wantsKey = true;
        boolean wantsPiece = true;
        int at = 0;
        while (true) {
            int before = at;
            while (at < tape.length() && tape.charAt(at) == ' ') {
                at++;
            }
            if (at == tape.length()) {
                return wantsPiece || open.contains('(') ? at : -1;
            }
            int start = at;
            char c = tape.charAt(at++);
            while (at < tape.length() && (letter(c) && letter(tape.charAt(at)) || digit(c) && digit(tape.charAt(at)))) {
                at++;
            }
            String word = tape.substring(start, at);
            boolean isWord = letter(c) || digit(c);
            if (wantsKey) {
                law.key = KEYS.indexOf(word);
                if (law.key < 0) {
                    return start;
                }
                wantsKey = false;
                continue;
            }
            if (isWord && start == before && (letter(tape.charAt(start - 1)) || digit(tape.charAt(start - 1)))) {
                return start;
            }
            law.words.add(word);
            if (wantsPiece) {
                if (c == '(' || c == '!') {
                    if (open.stream().filter(o -> o == c).count() == 8) {
                        return start;
                    }
                    open.push(c);
                    if (c == '(') {
                        tested.push(false);
                    }
                    continue;
                }
                boolean fits = digit(c) ? word.length() <= 4 : letter(c) && word.length() == 1 && NAMES[law.key].contains(word);
                if (!fits) {
                    return start;
                }
                wantsPiece = false;
            } else if (c == ')') {
                if (!open.contains('(')) {
                    return start;
                }
                open.pop();
                tested.pop();
            } else if ("|&".indexOf(c) >= 0) {
                tested.pop();
                tested.push(false);
                wantsPiece = true;
                continue;
            } else if ("<=>".indexOf(c) >= 0 && !tested.peek()) {
                tested.pop();
                tested.push(true);
                wantsPiece = true;
                continue;
            } else if ("+-*/".indexOf(c) >= 0) {
                wantsPiece = true;
                continue;
            } else {
                return start;
            }
            while (!open.isEmpty() && open.peek() == '!') {
                open.pop();
            }
        }
    }

    // ---- the calls

    static final class Model {
        World w = new World();
        World image;
        StringBuilder tape = new StringBuilder();
        List<Integer> waiting = new ArrayList<>();
        /** short[] or float[], null is MISSING. */
        Object[] sheets = new Object[4];
        /** Bottle, short[], float[], Integer or null. */
        Object[] slots = new Object[5];

        Bottle bottleOf(int k) {
            refuse(out(k, 0, w.bottles.size() - 1), BAD);
            return w.bottles.get(k);
        }

        static int length(Object sheet) {
            return sheet instanceof short[] s ? s.length : ((float[]) sheet).length;
        }

        static Integer place(Object sheet, int k) {
            if (sheet instanceof short[] s) {
                return (int) s[k];
            }
            float f = ((float[]) sheet)[k];
            return Float.isNaN(f) ? null : Integer.valueOf((int) f);
        }

        int call(String name, int[] a) {
            try {
                return doCall(name, a);
            } catch (Refused r) {
                return r.answer;
            }
        }

        private int doCall(String name, int[] a) {
            switch (name) {
                case "bottle": {
                    refuse(out(a[0], 0, 5) || out(a[1], 0, 99) || out(a[2], 0, 1), BAD);
                    refuse(w.bottles.size() == 8, FULL);
                    w.bottles.add(new Bottle(a[0], a[1], a[2]));
                    return w.bottles.size() - 1;
                }
                case "told": {
                    Bottle b = bottleOf(a[0]);
                    refuse(out(a[1], 0, 7), BAD);
                    return new int[] {b.kind, b.years, b.lying, b.left, b.crumbs, b.warm, b.held(), KINDS[b.kind].worth(b)}[a[1]];
                }
                case "layer": {
                    Bottle b = bottleOf(a[0]);
                    refuse(out(a[1], 0, 5) || out(a[2], 0, 3), BAD);
                    return new int[] {b.strength[a[1]], b.hold[a[1]], KINDS[b.kind].strong(b, a[1], w), b.grips(a[1])}[a[2]];
                }
                case "sets": {
                    Bottle b = bottleOf(a[0]);
                    refuse(out(a[1], 0, 5) || out(a[2], 0, 1) || out(a[3], 0, 24), BAD);
                    int[] row = a[2] == 0 ? b.strength : b.hold;
                    int was = row[a[1]];
                    row[a[1]] = a[3];
                    return was;
                }
                case "as": {
                    Bottle b = bottleOf(a[0]);
                    refuse(out(a[1], 0, 5), BAD);
                    refuse(!b.of(a[1]), KIND);
                    return b.years;
                }
                case "turns": {
                    Bottle b = bottleOf(a[0]);
                    refuse(out(a[1], 0, 5), BAD);
                    int was = b.kind;
                    b.kind = a[1];
                    return was;
                }
                case "set": {
                    Bottle b = bottleOf(a[0]);
                    refuse(a[1] != 1 && a[1] != 2, BAD);
                    refuse(a[1] == 1 ? out(a[2], 0, 99) : out(a[2], 0, 1), BAD);
                    int was = a[1] == 1 ? b.years : b.lying;
                    b.years = a[1] == 1 ? a[2] : b.years;
                    b.lying = a[1] == 2 ? a[2] : b.lying;
                    return was;
                }
                case "pull": {
                    Bottle b = bottleOf(a[0]);
                    refuse(out(a[1], 1, 6) || out(a[2], 0, 999), BAD);
                    refuse(b.left == 0, NO);
                    return b.pull(a[1], a[2], w);
                }
                case "push": {
                    Bottle b = bottleOf(a[0]);
                    refuse(b.left == 0, NO);
                    int n = b.left;
                    b.crumbs += n;
                    b.left = 0;
                    return n;
                }
                case "warm": {
                    Bottle b = bottleOf(a[0]);
                    refuse(b.warm == 3, FULL);
                    return ++b.warm;
                }
                case "rule": {
                    refuse(a[0] != 0 && a[0] != 1, BAD);
                    refuse(out(a[1], 0, a[0] == 0 ? 100 : 5), BAD);
                    int was = a[0] == 0 ? w.humid : w.wear;
                    w.humid = a[0] == 0 ? a[1] : w.humid;
                    w.wear = a[0] == 1 ? a[1] : w.wear;
                    return was;
                }
                case "deal": {
                    refuse(out(a[0], 1, 8), BAD);
                    int came = 0;
                    while (came < a[0] && w.bottles.size() < 8) {
                        Bottle b = new Bottle(w.draw() % 6, w.draw() % 60, w.draw() % 2);
                        for (int k = 0; k < 6; k++) {
                            b.strength[k] = w.draw() % 25;
                        }
                        w.bottles.add(b);
                        came++;
                    }
                    return came;
                }
                case "seed": {
                    int was = w.z;
                    w.z = a[0];
                    return was;
                }
                case "years": {
                    refuse(out(a[0], 1, 100), BAD);
                    int damp = 0;
                    for (int k = 0; k < a[0]; k++) {
                        if (w.year < 9999 && w.year()) {
                            damp++;
                        }
                    }
                    return damp;
                }
                default:
                    return thinks(name, a);
            }
        }

        private int thinks(String name, int[] a) {
            switch (name) {
                case "cellar": {
                    refuse(out(a[0], 0, 3), BAD);
                    int[] sum = new int[4];
                    for (int k = 0; k < w.bottles.size(); k++) {
                        Bottle b = w.bottles.get(k);
                        sum[0] += b.left;
                        sum[1] += b.crumbs;
                        sum[2] += b.left == 0 ? 1 << k : 0;
                        sum[3] += b.years;
                    }
                    return sum[a[0]];
                }
                case "tried": {
                    Bottle b = bottleOf(a[0]).twin();
                    refuse(out(a[1], 1, 6) || out(a[2], 0, 999) || out(a[3], 0, 1), BAD);
                    refuse(b.left == 0, NONE);
                    int was = b.crumbs;
                    int came = b.pull(a[1], a[2], w);
                    return a[3] == 0 ? came : b.crumbs - was;
                }
                case "depth": {
                    Bottle b = bottleOf(a[0]);
                    refuse(out(a[1], 0, 999) || out(a[2], 0, 1), BAD);
                    refuse(b.left == 0, NONE);
                    int[] best = null;
                    for (int depth = 6; depth >= 1; depth--) {
                        Bottle t = b.twin();
                        int came = t.pull(depth, a[1], w);
                        if (best == null || came > best[1] || came == best[1] && t.crumbs <= best[2]) {
                            best = new int[] {depth, came, t.crumbs};
                        }
                    }
                    return best[a[2]];
                }
                case "tree": {
                    Bottle b = bottleOf(a[0]);
                    refuse(out(a[1], 0, 999) || out(a[2], 0, 1), BAD);
                    int[] tree = b.tree(a[1], w);
                    return tree == null ? NONE : tree[a[2]];
                }
                case "behind": {
                    refuse(out(a[0], 0, 100) || out(a[1], 0, w.bottles.size() + 1), BAD);
                    World t = w.behind(a[0]);
                    return a[1] == 0 ? t.strengths() : a[1] == 1 ? t.holds() : t.bottles.get(a[1] - 2).held();
                }
                case "when": {
                    bottleOf(a[0]);
                    refuse(out(a[1], 0, 999) || out(a[2], 0, 1), BAD);
                    int[] best = null;
                    World t = w.twin();
                    for (int k = 0; k <= 60; k++) {
                        int[] tree = t.bottles.get(a[0]).tree(a[1], t);
                        if (tree != null && (best == null || tree[0] < best[1])) {
                            best = new int[] {k, tree[0]};
                        }
                        t.year();
                    }
                    return best == null ? NONE : best[a[2]];
                }
                case "which": {
                    refuse(out(a[0], 0, 60) || out(a[1], 0, 999) || out(a[2], 0, 1), BAD);
                    World t = w.behind(a[0]);
                    int[] best = null;
                    for (int k = t.bottles.size() - 1; k >= 0; k--) {
                        int[] tree = t.bottles.get(k).left < 6 ? null : t.bottles.get(k).tree(a[1], t);
                        if (tree != null && (best == null || tree[0] <= best[1])) {
                            best = new int[] {k, tree[0]};
                        }
                    }
                    return best == null ? NONE : best[a[2]];
                }
                case "laid": {
                    bottleOf(a[0]);
                    refuse(out(a[1], 0, 60) || out(a[2], 0, 999), BAD);
                    World other = w.twin();
                    other.bottles.get(a[0]).lying ^= 1;
                    World t = w.behind(a[1]);
                    other = other.behind(a[1]);
                    int[] one = t.bottles.get(a[0]).tree(a[2], t);
                    int[] two = other.bottles.get(a[0]).tree(a[2], other);
                    return one == null || two == null ? NONE : one[0] - two[0];
                }
                case "old": {
                    refuse(out(a[0], 0, 3) || out(a[1], 0, 1), BAD);
                    refuse(sheets[a[0]] == null, NOTHING);
                    refuse(w.bottles.isEmpty(), NONE);
                    int[] best = null;
                    for (int k = 0; k < w.bottles.size(); k++) {
                        int sum = 0;
                        for (int p = 0; p < length(sheets[a[0]]); p++) {
                            Integer v = place(sheets[a[0]], p);
                            sum += v == null ? 0 : p > 5 ? Math.abs(v) : Math.abs(v - w.bottles.get(k).grips(p));
                        }
                        if (best == null || sum < best[1]) {
                            best = new int[] {k, sum};
                        }
                    }
                    return best[a[1]];
                }
                case "fee":
                    return w.law(1) == null ? w.crumbs() : w.law(1).value(w.crumbs(), w.year);
                case "fine": {
                    Bottle b = bottleOf(a[0]);
                    return w.law(2) == null ? b.left : w.law(2).value(b.years, b.left);
                }
                default:
                    return texts(name, a);
            }
        }

        private int texts(String name, int[] a) {
            switch (name) {
                case "feed": {
                    refuse(tape.length() > 84, FULL);
                    for (int v : a) {
                        for (int k = 3; k >= 0; k--) {
                            tape.append((char) (v >> 8 * k & 255));
                        }
                    }
                    return tape.length();
                }
                case "trim": {
                    refuse(out(a[0], 0, tape.length()), BAD);
                    tape.setLength(a[0]);
                    return a[0];
                }
                case "text": {
                    Law law = new Law();
                    int fault = read(tape.toString(), law);
                    tape.setLength(0);
                    refuse(fault >= 0, -100 - fault);
                    refuse(w.laws.size() == 14, FULL);
                    w.laws.add(law);
                    return w.laws.size() - 1;
                }
                case "textTold": {
                    refuse(out(a[0], 0, w.laws.size() - 1) || out(a[1], 0, 1), BAD);
                    return a[1] == 0 ? w.laws.get(a[0]).key : w.laws.get(a[0]).operands();
                }
                case "why":
                    refuse(out(a[0], 0, 2), BAD);
                    return w.whichLaw(a[0]);
                default:
                    return rows(name, a);
            }
        }

        private int rows(String name, int[] a) {
            switch (name) {
                case "sheet": {
                    refuse(out(a[0], 0, 3) || out(a[1], -1, 1) || a[1] >= 0 && a[2] > 24, BAD);
                    refuse(a[1] >= 0 && a[2] < 0, SIZE);
                    sheets[a[0]] = a[1] < 0 ? null : a[1] == 0 ? new short[a[2]] : new float[a[2]];
                    return a[1] < 0 ? 0 : a[2];
                }
                case "mark": {
                    refuse(out(a[0], 0, 3), BAD);
                    refuse(sheets[a[0]] == null, NOTHING);
                    refuse(out(a[1], 0, length(sheets[a[0]]) - 1), INDEX);
                    if (sheets[a[0]] instanceof short[] s) {
                        refuse(a[2] == NONE, KIND);
                        s[a[1]] = (short) a[2];
                    } else {
                        refuse(a[2] != NONE && out(a[2], -99999, 99999), BAD);
                        ((float[]) sheets[a[0]])[a[1]] = a[2] == NONE ? Float.NaN : a[2];
                    }
                    return 1;
                }
                case "pour": {
                    Bottle b = bottleOf(a[0]);
                    refuse(out(a[1], 0, 3), BAD);
                    refuse(sheets[a[1]] == null, NOTHING);
                    int[] was = b.hold.clone();
                    int otherwise = 0;
                    for (int k = 0; k < Math.min(6, length(sheets[a[1]])); k++) {
                        Integer v = place(sheets[a[1]], k);
                        b.hold[k] = v == null ? was[k] : v < 0 ? 0 : v > 24 ? 24 : v;
                        otherwise += b.hold[k] == was[k] ? 0 : 1;
                    }
                    return otherwise;
                }
                case "reads": {
                    Bottle b = bottleOf(a[0]);
                    refuse(out(a[1], 0, 3), BAD);
                    refuse(sheets[a[1]] == null, NOTHING);
                    for (int k = 0; k < length(sheets[a[1]]); k++) {
                        Integer v = place(sheets[a[1]], k);
                        if (v != null && (k > 5 || v != b.strength[k])) {
                            return k;
                        }
                    }
                    return NONE;
                }
                case "copy": {
                    refuse(out(a[0], 0, 3) || out(a[2], 0, 3), BAD);
                    try {
                        System.arraycopy(sheets[a[0]], a[1], sheets[a[2]], a[3], a[4]);
                    } catch (NullPointerException e) {
                        return NOTHING;
                    } catch (ArrayStoreException e) {
                        return KIND;
                    } catch (IndexOutOfBoundsException e) {
                        return INDEX;
                    }
                    return a[4];
                }
                case "lay": {
                    refuse(out(a[0], 0, 4) || out(a[1], 0, 3) || a[1] == 2 && out(a[2], 0, 3), BAD);
                    Object thing = null;
                    if (a[1] == 1) {
                        thing = bottleOf(a[2]).twin();
                    } else if (a[1] == 2) {
                        refuse(sheets[a[2]] == null, NOTHING);
                        thing = sheets[a[2]] instanceof short[] s ? s.clone() : ((float[]) sheets[a[2]]).clone();
                    } else if (a[1] == 3) {
                        thing = a[2];
                    }
                    Object was = slots[a[0]];
                    slots[a[0]] = thing;
                    return was == null ? 0 : was instanceof Bottle ? 1 : was instanceof Integer ? 3 : 2;
                }
                case "ask": {
                    refuse(out(a[0], 0, 4) || out(a[1], 0, 5), BAD);
                    refuse(slots[a[0]] == null, NOTHING);
                    refuse(!(slots[a[0]] instanceof Bottle b && b.of(a[1])), KIND);
                    Bottle b = (Bottle) slots[a[0]];
                    return KINDS[b.kind].worth(b);
                }
                case "item": {
                    refuse(out(a[0], 0, 4), BAD);
                    refuse(slots[a[0]] == null, NOTHING);
                    refuse(slots[a[0]] instanceof Bottle || slots[a[0]] instanceof Integer, KIND);
                    refuse(out(a[1], 0, length(slots[a[0]]) - 1), INDEX);
                    Integer v = place(slots[a[0]], a[1]);
                    refuse(v == null, KIND);
                    return v;
                }
                case "rest": {
                    refuse(out(a[0], 0, 4), BAD);
                    refuse(slots[a[0]] == null, NOTHING);
                    refuse(!(slots[a[0]] instanceof Integer), KIND);
                    refuse(a[1] == 0, NO);
                    return (Integer) slots[a[0]] % a[1];
                }
                default:
                    return images(name, a);
            }
        }

        private int images(String name, int[] a) {
            switch (name) {
                case "tell":
                    refuse(waiting.size() == 60, FULL);
                    waiting.add(a[0]);
                    return waiting.size();
                case "check": {
                    List<Integer> given = waiting;
                    waiting = new ArrayList<>();
                    refuse(out(a[0], 1, 30), BAD);
                    refuse(image == null, NO);
                    List<Integer> due = yearsTold(a[0]);
                    int right = 0;
                    while (right < due.size() && right < given.size() && due.get(right).equals(given.get(right))) {
                        right++;
                    }
                    return given.equals(due) ? 0 : 1 + right;
                }
                case "keep":
                    image = w.twin();
                    return w.bottles.size();
                case "back":
                    refuse(image == null, NO);
                    w = image.twin();
                    return w.bottles.size();
                case "count":
                    refuse(out(a[0], 0, 7), BAD);
                    return new int[] {w.bottles.size(), w.year, w.humid, w.wear, w.laws.size(), waiting.size(), tape.length(), w.z}[a[0]];
                default:
                    throw new AssertionError(name);
            }
        }

        List<Integer> yearsTold(int n) {
            List<Integer> due = new ArrayList<>();
            World t = image.twin();
            for (int k = 0; k < n && image.year + k < 9999; k++) {
                t.year();
                due.add(t.strengths());
                due.add(t.holds());
            }
            return due;
        }
    }

    static int ask(CorkBreaks x, String name, int[] a) {
        switch (name) {
            case "bottle": return x.bottle(a[0], a[1], a[2]);
            case "told": return x.told(a[0], a[1]);
            case "layer": return x.layer(a[0], a[1], a[2]);
            case "sets": return x.sets(a[0], a[1], a[2], a[3]);
            case "as": return x.as(a[0], a[1]);
            case "turns": return x.turns(a[0], a[1]);
            case "set": return x.set(a[0], a[1], a[2]);
            case "pull": return x.pull(a[0], a[1], a[2]);
            case "push": return x.push(a[0]);
            case "warm": return x.warm(a[0]);
            case "rule": return x.rule(a[0], a[1]);
            case "deal": return x.deal(a[0]);
            case "seed": return x.seed(a[0]);
            case "years": return x.years(a[0]);
            case "cellar": return x.cellar(a[0]);
            case "tried": return x.tried(a[0], a[1], a[2], a[3]);
            case "depth": return x.depth(a[0], a[1], a[2]);
            case "tree": return x.tree(a[0], a[1], a[2]);
            case "behind": return x.behind(a[0], a[1]);
            case "when": return x.when(a[0], a[1], a[2]);
            case "which": return x.which(a[0], a[1], a[2]);
            case "laid": return x.laid(a[0], a[1], a[2]);
            case "old": return x.old(a[0], a[1]);
            case "fee": return x.fee();
            case "fine": return x.fine(a[0]);
            case "feed": return x.feed(a[0], a[1], a[2]);
            case "trim": return x.trim(a[0]);
            case "text": return x.text();
            case "textTold": return x.textTold(a[0], a[1]);
            case "why": return x.why(a[0]);
            case "sheet": return x.sheet(a[0], a[1], a[2]);
            case "mark": return x.mark(a[0], a[1], a[2]);
            case "pour": return x.pour(a[0], a[1]);
            case "reads": return x.reads(a[0], a[1]);
            case "copy": return x.copy(a[0], a[1], a[2], a[3], a[4]);
            case "lay": return x.lay(a[0], a[1], a[2]);
            case "ask": return x.ask(a[0], a[1]);
            case "item": return x.item(a[0], a[1]);
            case "rest": return x.rest(a[0], a[1]);
            case "tell": return x.tell(a[0]);
            case "check": return x.check(a[0]);
            case "keep": return x.keep();
            case "back": return x.back();
            case "count": return x.count(a[0]);
            default: throw new AssertionError(name);
        }
    }

    // ---- random calls

    /** What each call's arguments are, a letter each; a call stands as often as it is to come. */
    static final String[] CALLS = {
        "bottle kyi", "bottle kyi", "told b8", "told b8", "layer bl4", "layer bl4", "sets bl2s", "sets bl2s", "sets bl2s", "sets bl2s",
        "as bk", "turns bk", "set b3y", "set b3i", "pull bdf", "pull bdf", "push b", "warm b", "rule 2y", "rule 26", "deal 3", "seed x",
        "years n", "years n", "cellar 4", "tried bdf2", "tried bdf2", "depth bf2", "depth bf2", "tree bf2", "tree bf2", "behind nt",
        "behind nt", "when bf2", "which mf2", "laid bmf", "old h2", "old h2", "fee", "fine b", "feed xxx", "trim y", "text", "textTold t2",
        "why 3", "sheet hjp", "sheet hjp", "mark hpv", "mark hpv", "mark hpv", "pour bh", "reads bh", "copy hphpq", "copy hphpq",
        "lay o1b", "lay o2h", "lay o3x", "lay o0x", "ask ok", "ask ok", "item op", "item op", "rest ov", "tell x", "check r", "keep",
        "back", "count 8"};

    /** One of so many is any odd number, whatever it is for. */
    static int argument(char sort, Random r, int odds) {
        if (r.nextInt(odds) == 0) {
            int[] odd = {-1, 0, 1, 6, 7, 8, 24, 25, 60, 61, 99, 100, 101, 999, 1000, 99999, 100000, -99999, -100000, 32768, 65536,
                Integer.MIN_VALUE, Integer.MAX_VALUE, NONE, BAD, -2};
            return odd[r.nextInt(odd.length)];
        }
        switch (sort) {
            case 'k': return r.nextInt(6);
            case 'y': return r.nextInt(100);
            case 'i': return r.nextInt(2);
            case 'b': return r.nextInt(r.nextInt(3) == 0 ? 8 : 3);
            case 'l': return r.nextInt(6);
            case 's': return r.nextInt(3) == 0 ? r.nextInt(4) : r.nextInt(25);
            case 'd': return 1 + r.nextInt(6);
            case 'f': return r.nextInt(3) == 0 ? 999 : r.nextInt(90);
            case 'x': return r.nextInt();
            case 'n': return r.nextInt(4) == 0 ? r.nextInt(101) : r.nextInt(5);
            case 't': return r.nextInt(11);
            case 'm': return r.nextInt(61);
            case 'h': return r.nextInt(4);
            case 'j': return r.nextInt(7) - 1 >> 1 == 2 ? 0 : r.nextInt(3) - 1;
            case 'p': return r.nextInt(r.nextInt(4) == 0 ? 26 : 9);
            case 'q': return r.nextInt(5);
            case 'v': return r.nextInt(5) == 0 ? NONE : r.nextInt(r.nextInt(3) == 0 ? 200000 : 30) - (r.nextBoolean() ? 5 : 0);
            case 'o': return r.nextInt(5);
            case 'r': return 1 + r.nextInt(5);
            default: return sort == '0' ? 0 : r.nextInt(sort - '0');
        }
    }

    static String randomText(Random r) {
        StringBuilder s = new StringBuilder();
        int key = r.nextInt(3);
        s.append(KEYS.get(key)).append(' ');
        randomE(s, r, NAMES[key], 0);
        if (r.nextInt(3) == 0) {
            String odd = "()!|&<=>+-*/ sylc0123456789az?\u00ff";
            for (int k = 0; k <= r.nextInt(2); k++) {
                int at = r.nextInt(s.length());
                char c = odd.charAt(r.nextInt(odd.length()));
                if (r.nextBoolean()) {
                    s.insert(at, c);
                } else if (r.nextBoolean()) {
                    s.deleteCharAt(at);
                } else {
                    s.setCharAt(at, c);
                }
            }
        }
        return s.length() > 96 ? s.substring(0, 96) : s.toString();
    }

    static void randomE(StringBuilder s, Random r, String names, int depth) {
        int pieces = 1 + r.nextInt(depth == 0 ? 4 : 2);
        for (int k = 0; k < pieces; k++) {
            if (k > 0) {
                s.append(r.nextInt(4) == 0 ? " " : "").append("|&<=>+-*/+-*".charAt(r.nextInt(12))).append(r.nextInt(4) == 0 ? " " : "");
            }
            while (r.nextInt(6) == 0) {
                s.append('!');
            }
            if (depth < 4 && r.nextInt(4) == 0) {
                s.append('(');
                randomE(s, r, names, depth + 1);
                s.append(')');
            } else if (r.nextInt(2) == 0) {
                s.append(names.charAt(r.nextInt(names.length())));
            } else {
                s.append(r.nextInt(r.nextInt(3) == 0 ? 12000 : 20));
            }
        }
    }

    static int wrong = 0;
    static long asked = 0;

    /** One object and one model through up to 512 calls. */
    static final class Run {
        final Random r;
        final long number;
        final CorkBreaks x = new CorkBreaks();
        final Model m = new Model();
        int calls = 0;

        Run(long number) {
            this.number = number;
            r = new Random(number);
        }

        void both(String name, int... a) {
            if (calls++ >= 512) {
                return;
            }
            asked++;
            int want = m.call(name, a);
            int got = ask(x, name, a);
            if (got != want) {
                wrong++;
                System.out.println("run " + number + ", call " + calls + ": " + name + Arrays.toString(a) + " answered " + got + ", the model " + want);
            }
        }

        void tellsText(String text) {
            both("trim", 0);
            for (int k = 0; k < text.length(); k += 12) {
                int[] words = new int[3];
                for (int n = 0; n < 12; n++) {
                    int b = k + n < text.length() ? text.charAt(k + n) : 32;
                    words[n / 4] |= b << 24 - n % 4 * 8;
                }
                both("feed", words);
            }
            both("trim", text.length());
            both("text");
        }

        void tellsYears() {
            if (m.image == null) {
                both("keep");
            }
            int n = 1 + r.nextInt(6);
            List<Integer> due = m.yearsTold(n);
            if (r.nextInt(3) == 0 && !due.isEmpty()) {
                int at = r.nextInt(due.size());
                if (r.nextBoolean()) {
                    due.remove(at);
                } else {
                    due.set(at, due.get(at) + r.nextInt(2));
                }
            } else if (r.nextInt(3) == 0) {
                due.add(r.nextInt(3));
            }
            for (int v : due) {
                both("tell", v);
            }
            both("check", n);
        }

        void all() {
            for (int b = 0; b < m.w.bottles.size(); b++) {
                for (int k = 0; k < 8; k++) {
                    both("told", b, k);
                }
            }
            for (int k = 0; k < 8; k++) {
                both("count", k);
            }
        }

        void run() {
            int steps = 60 + r.nextInt(400);
            if (r.nextInt(20) == 0) {
                for (int k = 0; k < 100; k++) {
                    both("years", 100 - r.nextInt(2));
                }
            }
            for (int k = 0; k < steps && calls < 512; k++) {
                int which = r.nextInt(60);
                if (which == 0) {
                    tellsYears();
                } else if (which < 4) {
                    tellsText(randomText(r));
                } else {
                    String[] call = CALLS[r.nextInt(CALLS.length)].split(" ");
                    int[] a = new int[call.length == 1 ? 0 : call[1].length()];
                    for (int n = 0; n < a.length; n++) {
                        a[n] = argument(call[1].charAt(n), r, number % 5 == 0 ? 3 : 40);
                        // A digit that a lay asks for is the thing itself.
                        if (call[0].equals("lay") && n == 1) {
                            a[n] = r.nextInt(30) == 0 ? a[n] : call[1].charAt(n) - '0';
                        }
                    }
                    both(call[0], a);
                }
            }
            all();
        }
    }

    public static void main(String[] args) {
        int runs = args.length > 0 ? Integer.parseInt(args[0]) : 500;
        for (int k = 0; k < runs && wrong < 30; k++) {
            new Run(k).run();
        }
        texts(args.length > 0 ? runs * 10 : 20000);
        System.out.println(asked + " answers beside the model, " + wrong + " otherwise");
        if (wrong != 0) {
            System.exit(1);
        }
    }

    /** TEXTS alone, of pieces put together without a rule, so that FAULTS of all sorts come. */
    static void texts(int many) {
        Random r = new Random(7);
        String[] pieces = {"hard", "fee", "fine", " ", " ", "s", "y", "l", "c", "1", "23", "9999", "12345", "(", "(", ")", ")", "!", "!",
            "+", "-", "*", "/", "<", "=", ">", "&", "|", "?", "S", "\u0000", "\u00e1"};
        for (int k = 0; k < many && wrong < 30; k++) {
            StringBuilder s = new StringBuilder(r.nextInt(4) > 0 ? KEYS.get(r.nextInt(3)) + " " : "");
            boolean brackets = r.nextInt(4) == 0;
            for (int n = r.nextInt(20); n > 0; n--) {
                s.append(brackets ? "(!( !y)+".charAt(r.nextInt(8)) : pieces[r.nextInt(pieces.length)]);
            }
            if (brackets) {
                s.append("!".repeat(r.nextInt(10))).append("(".repeat(r.nextInt(10))).append('y').append(")".repeat(r.nextInt(12)));
            }
            Run run = new Run(-k);
            run.tellsText(s.length() > 96 ? s.substring(0, 96) : s.toString());
            run.both("fee");
            run.both("textTold", 0, 1);
            run.both("why", k % 3);
        }
    }
}
