/** Bottles, their corks in layers, and what a pull brings. README.md says how it is used. */
public final class CorkBreaks {
    public static final int BAD = -1000000001, NO = -1000000002, FULL = -1000000003, NONE = -1000000005, NOTHING = -1000000011, KIND = -1000000012, INDEX = -1000000013, SIZE = -1000000014;

    private static final int MOST_BOTTLES = 8, LAYERS = 6, MOST_OF_LAYER = 24, MOST_YEARS = 99, MOST_WARM = 3;
    private static final int MOST_HUMID = 100, MOST_WEAR = 5, LAST_YEAR = 9999, MOST_FORCE = 999;
    private static final int MOST_YEARS_AT_ONCE = 100, MOST_YEARS_THOUGHT = 60, MOST_YEARS_CHECKED = 30;
    private static final int CORK = 0, SOUND = 1, DRY = 2, SOAKED = 3, CRUMBLY = 4, MUSTY = 5, KINDS = 6;
    private static final int HARD = 0, FEE = 1, FINE = 2, KEYS = 3;
    private static final int MOST_TEXTS = 14, MOST_TAPE = 96, FEED = 12, FAULT_BASE = -100;
    private static final int SHEETS = 4, SLOTS = 5, MOST_PLACES = 24, MOST_WAITING = 60;
    private static final int MISSING = -1, SHORTS = 0, FLOATS = 1, MOST_OF_FLOATS = 99999;
    private static final int HOLDS_NOTHING = 0, HOLDS_BOTTLE = 1, HOLDS_SHEET = 2, HOLDS_NUMBER = 3;

    /** For each KIND the one that it stands under; -1 ends the way up. */
    private static final int[] ABOVE = {-1, CORK, CORK, SOUND, DRY, CORK};

    private final Cellar now;
    private final Cellar image;
    /** Where all that is only thought is worked out, so that no call makes a cellar of its own. */
    private final Cellar thought;
    private final Neck neck;
    private final Reader reader;
    private final Row[] sheets;
    private final Slot[] slots;
    private final int[] waiting;
    private boolean imageKept;
    private int waitingCount;

    public CorkBreaks() {
        now = new Cellar();
        image = new Cellar();
        thought = new Cellar();
        neck = new Neck();
        reader = new Reader();
        sheets = new Row[SHEETS];
        for (int k = 0; k < SHEETS; k++) {
            sheets[k] = new Row();
        }
        slots = new Slot[SLOTS];
        for (int k = 0; k < SLOTS; k++) {
            slots[k] = new Slot();
        }
        waiting = new int[MOST_WAITING];
    }

    // ---- bottles, layers

    public int bottle(int kind, int years, int lying) {
        if (!isKind(kind) || !within(years, 0, MOST_YEARS) || !within(lying, 0, 1)) {
            return BAD;
        }
        if (now.count >= MOST_BOTTLES) {
            return FULL;
        }
        now.bottles[now.count].becomeNew(kind, years, lying);
        now.count++;
        return now.count - 1;
    }

    public int told(int bottle, int what) {
        if (!isBottle(bottle)) {
            return BAD;
        }
        Bottle b = now.bottles[bottle];
        switch (what) {
            case 0:
                return b.kind;
            case 1:
                return b.years;
            case 2:
                return b.lying;
            case 3:
                return b.left;
            case 4:
                return b.crumbs;
            case 5:
                return b.warmth;
            case 6:
                return b.held();
            case 7:
                return worthOf(b.kind, b.years);
            default:
                return BAD;
        }
    }

    public int layer(int bottle, int layer, int what) {
        if (!isBottle(bottle) || !isLayer(layer)) {
            return BAD;
        }
        Bottle b = now.bottles[bottle];
        switch (what) {
            case 0:
                return b.strength[layer];
            case 1:
                return b.hold[layer];
            case 2:
                return now.strong(b, layer);
            case 3:
                return b.grips(layer);
            default:
                return BAD;
        }
    }

    public int sets(int bottle, int layer, int what, int v) {
        if (!isBottle(bottle) || !isLayer(layer) || !within(what, 0, 1) || !within(v, 0, MOST_OF_LAYER)) {
            return BAD;
        }
        Bottle b = now.bottles[bottle];
        int[] row = what == 0 ? b.strength : b.hold;
        int was = row[layer];
        row[layer] = v;
        return was;
    }

    public int as(int bottle, int kind) {
        if (!isBottle(bottle) || !isKind(kind)) {
            return BAD;
        }
        Bottle b = now.bottles[bottle];
        return isOf(b.kind, kind) ? b.years : KIND;
    }

    public int turns(int bottle, int kind) {
        if (!isBottle(bottle) || !isKind(kind)) {
            return BAD;
        }
        Bottle b = now.bottles[bottle];
        int was = b.kind;
        b.kind = kind;
        return was;
    }

    public int set(int bottle, int what, int v) {
        if (!isBottle(bottle) || !within(what, 1, 2) || !within(v, 0, what == 1 ? MOST_YEARS : 1)) {
            return BAD;
        }
        Bottle b = now.bottles[bottle];
        int was = what == 1 ? b.years : b.lying;
        if (what == 1) {
            b.years = v;
        } else {
            b.lying = v;
        }
        return was;
    }

    public int pull(int bottle, int depth, int force) {
        if (!isBottle(bottle) || !within(depth, 1, LAYERS) || !within(force, 0, MOST_FORCE)) {
            return BAD;
        }
        Bottle b = now.bottles[bottle];
        if (b.left == 0) {
            return NO;
        }
        neck.look(now, b);
        neck.think(b.left, depth, force);
        b.left -= neck.came;
        b.crumbs += neck.fell;
        return neck.came;
    }

    public int push(int bottle) {
        if (!isBottle(bottle)) {
            return BAD;
        }
        Bottle b = now.bottles[bottle];
        if (b.left == 0) {
            return NO;
        }
        int pushed = b.left;
        b.left = 0;
        b.crumbs += pushed;
        return pushed;
    }

    public int warm(int bottle) {
        if (!isBottle(bottle)) {
            return BAD;
        }
        Bottle b = now.bottles[bottle];
        if (b.warmth >= MOST_WARM) {
            return FULL;
        }
        b.warmth++;
        return b.warmth;
    }

    public int rule(int what, int v) {
        if (!within(what, 0, 1) || !within(v, 0, what == 0 ? MOST_HUMID : MOST_WEAR)) {
            return BAD;
        }
        int was = what == 0 ? now.humid : now.wear;
        if (what == 0) {
            now.humid = v;
        } else {
            now.wear = v;
        }
        return was;
    }

    public int deal(int n) {
        if (!within(n, 1, MOST_BOTTLES)) {
            return BAD;
        }
        int came = Math.min(n, MOST_BOTTLES - now.count);
        for (int k = 0; k < came; k++) {
            now.drawBottle();
        }
        return came;
    }

    public int seed(int v) {
        int was = now.z;
        now.z = v;
        return was;
    }

    // ---- years

    public int years(int n) {
        if (!within(n, 1, MOST_YEARS_AT_ONCE)) {
            return BAD;
        }
        int damp = 0;
        for (int k = 0; k < n && now.year < LAST_YEAR; k++) {
            if (now.passYear()) {
                damp++;
            }
        }
        return damp;
    }

    public int cellar(int what) {
        int together = 0;
        if (!within(what, 0, 3)) {
            return BAD;
        }
        for (int k = 0; k < now.count; k++) {
            Bottle b = now.bottles[k];
            if (what == 0) {
                together += b.left;
            } else if (what == 1) {
                together += b.crumbs;
            } else if (what == 2) {
                together |= b.left == 0 ? 1 << k : 0;
            } else {
                together += b.years;
            }
        }
        return together;
    }

    // ---- where it breaks, what will be

    public int tried(int bottle, int depth, int force, int what) {
        if (!isBottle(bottle) || !within(depth, 1, LAYERS) || !within(force, 0, MOST_FORCE) || !within(what, 0, 1)) {
            return BAD;
        }
        Bottle b = now.bottles[bottle];
        if (b.left == 0) {
            return NONE;
        }
        neck.look(now, b);
        neck.think(b.left, depth, force);
        return what == 0 ? neck.came : neck.fell;
    }

    public int depth(int bottle, int force, int what) {
        if (!isBottle(bottle) || !within(force, 0, MOST_FORCE) || !within(what, 0, 1)) {
            return BAD;
        }
        Bottle b = now.bottles[bottle];
        if (b.left == 0) {
            return NONE;
        }
        neck.look(now, b);
        int best = neck.bestDepth(force);
        neck.think(b.left, best, force);
        return what == 0 ? best : neck.came;
    }

    public int tree(int bottle, int force, int what) {
        if (!isBottle(bottle) || !within(force, 0, MOST_FORCE) || !within(what, 0, 1)) {
            return BAD;
        }
        Bottle b = now.bottles[bottle];
        neck.look(now, b);
        int crumbs = neck.fewestCrumbs(force);
        return what == 0 || crumbs == NONE ? crumbs : neck.pulls[b.left];
    }

    public int behind(int n, int what) {
        if (!within(n, 0, MOST_YEARS_AT_ONCE) || !within(what, 0, 1 + now.count)) {
            return BAD;
        }
        thinkAhead(n);
        if (what == 0) {
            return thought.strengthOfAll();
        }
        return what == 1 ? thought.holdOfAll() : thought.bottles[what - 2].held();
    }

    public int when(int bottle, int force, int what) {
        if (!isBottle(bottle) || !within(force, 0, MOST_FORCE) || !within(what, 0, 1)) {
            return BAD;
        }
        int best = NONE;
        int fewest = NONE;
        thinkAhead(0);
        // Fewer than 0 never fall, so the first year with 0 is the answer already.
        for (int k = 0; k <= MOST_YEARS_THOUGHT && fewest != 0; k++) {
            int crumbs = crumbsThought(bottle, force);
            if (isFewer(crumbs, fewest)) {
                best = k;
                fewest = crumbs;
            }
            thought.passYear();
        }
        return what == 0 ? best : fewest;
    }

    public int which(int n, int force, int what) {
        if (!within(n, 0, MOST_YEARS_THOUGHT) || !within(force, 0, MOST_FORCE) || !within(what, 0, 1)) {
            return BAD;
        }
        int best = NONE;
        int fewest = NONE;
        thinkAhead(n);
        for (int k = 0; k < thought.count; k++) {
            int crumbs = thought.bottles[k].left == LAYERS ? crumbsThought(k, force) : NONE;
            if (isFewer(crumbs, fewest)) {
                best = k;
                fewest = crumbs;
            }
        }
        return what == 0 ? best : fewest;
    }

    public int laid(int bottle, int n, int force) {
        if (!isBottle(bottle) || !within(n, 0, MOST_YEARS_THOUGHT) || !within(force, 0, MOST_FORCE)) {
            return BAD;
        }
        thinkAhead(n);
        int asItIs = crumbsThought(bottle, force);
        thinkAhead(0);
        thought.bottles[bottle].lying = 1 - thought.bottles[bottle].lying;
        thought.passYears(n);
        int otherWay = crumbsThought(bottle, force);
        return asItIs == NONE || otherWay == NONE ? NONE : asItIs - otherWay;
    }

    public int old(int sheet, int what) {
        if (!isSheet(sheet) || !within(what, 0, 1)) {
            return BAD;
        }
        Row row = sheets[sheet];
        if (row.sort == MISSING) {
            return NOTHING;
        }
        int best = NONE;
        int least = NONE;
        for (int k = 0; k < now.count; k++) {
            int apart = differences(now.bottles[k], row);
            if (isFewer(apart, least)) {
                best = k;
                least = apart;
            }
        }
        return what == 0 ? best : least;
    }

    public int fee() {
        Text text = now.textOf(FEE);
        int crumbs = now.crumbsOfAll();
        return text == null ? crumbs : text.gives(crumbs, now.year, 0);
    }

    public int fine(int bottle) {
        if (!isBottle(bottle)) {
            return BAD;
        }
        Bottle b = now.bottles[bottle];
        Text text = now.textOf(FINE);
        return text == null ? b.left : text.gives(b.years, b.left, 0);
    }

    // ---- texts

    public int feed(int a, int b, int c) {
        if (reader.size + FEED > MOST_TAPE) {
            return FULL;
        }
        reader.putBytes(a);
        reader.putBytes(b);
        reader.putBytes(c);
        return reader.size;
    }

    public int trim(int n) {
        if (!within(n, 0, reader.size)) {
            return BAD;
        }
        reader.size = n;
        return n;
    }

    public int text() {
        if (!reader.parse()) {
            return FAULT_BASE - reader.fault;
        }
        if (now.textCount >= MOST_TEXTS) {
            return FULL;
        }
        now.addText(reader.made());
        return now.textCount - 1;
    }

    public int textTold(int text, int what) {
        if (!within(text, 0, now.textCount - 1) || !within(what, 0, 1)) {
            return BAD;
        }
        return what == 0 ? now.texts[text].key : now.texts[text].operands;
    }

    public int why(int key) {
        return within(key, 0, KEYS - 1) ? now.counts[key] : BAD;
    }

    // ---- sheets, slots

    public int sheet(int sheet, int sort, int n) {
        if (!isSheet(sheet) || !within(sort, MISSING, FLOATS)) {
            return BAD;
        }
        if (sort == MISSING) {
            sheets[sheet].becomeEmpty(MISSING, 0);
            return 0;
        }
        if (n > MOST_PLACES) {
            return BAD;
        }
        if (n < 0) {
            return SIZE;
        }
        sheets[sheet].becomeEmpty(sort, n);
        return n;
    }

    public int mark(int sheet, int place, int v) {
        if (!isSheet(sheet)) {
            return BAD;
        }
        Row row = sheets[sheet];
        if (row.sort == MISSING) {
            return NOTHING;
        }
        if (!row.hasPlace(place)) {
            return INDEX;
        }
        if (row.sort == SHORTS) {
            if (v == NONE) {
                return KIND;
            }
            row.places[place] = (short) v;
            return 1;
        }
        if (v != NONE && !within(v, -MOST_OF_FLOATS, MOST_OF_FLOATS)) {
            return BAD;
        }
        row.places[place] = v;
        return 1;
    }

    public int pour(int bottle, int sheet) {
        if (!isBottle(bottle) || !isSheet(sheet)) {
            return BAD;
        }
        Row row = sheets[sheet];
        if (row.sort == MISSING) {
            return NOTHING;
        }
        int[] hold = now.bottles[bottle].hold;
        int otherwise = 0;
        for (int k = 0; k < LAYERS; k++) {
            int v = row.isNumber(k) ? heldWithin(row.places[k], 0, MOST_OF_LAYER) : hold[k];
            if (v != hold[k]) {
                otherwise++;
            }
            hold[k] = v;
        }
        return otherwise;
    }

    public int reads(int bottle, int sheet) {
        if (!isBottle(bottle) || !isSheet(sheet)) {
            return BAD;
        }
        Row row = sheets[sheet];
        if (row.sort == MISSING) {
            return NOTHING;
        }
        int[] strength = now.bottles[bottle].strength;
        for (int k = 0; k < row.size; k++) {
            if (row.isNumber(k) && (k >= LAYERS || row.places[k] != strength[k])) {
                return k;
            }
        }
        return NONE;
    }

    public int copy(int from, int place, int to, int at, int many) {
        if (!isSheet(from) || !isSheet(to)) {
            return BAD;
        }
        Row source = sheets[from];
        Row target = sheets[to];
        if (source.sort == MISSING || target.sort == MISSING) {
            return NOTHING;
        }
        if (source.sort != target.sort) {
            return KIND;
        }
        if (!source.hasRange(place, many) || !target.hasRange(at, many)) {
            return INDEX;
        }
        System.arraycopy(source.places, place, target.places, at, many);
        return many;
    }

    public int lay(int slot, int thing, int k) {
        if (!isSlot(slot) || !within(thing, HOLDS_NOTHING, HOLDS_NUMBER)) {
            return BAD;
        }
        if (thing == HOLDS_BOTTLE && !isBottle(k) || thing == HOLDS_SHEET && !isSheet(k)) {
            return BAD;
        }
        if (thing == HOLDS_SHEET && sheets[k].sort == MISSING) {
            return NOTHING;
        }
        Slot s = slots[slot];
        int was = s.thing;
        s.thing = thing;
        if (thing == HOLDS_BOTTLE) {
            s.kind = now.bottles[k].kind;
            s.years = now.bottles[k].years;
        } else if (thing == HOLDS_SHEET) {
            s.row.becomeAs(sheets[k]);
        } else if (thing == HOLDS_NUMBER) {
            s.number = k;
        }
        return was;
    }

    public int ask(int slot, int kind) {
        if (!isSlot(slot) || !isKind(kind)) {
            return BAD;
        }
        Slot s = slots[slot];
        if (s.thing == HOLDS_NOTHING) {
            return NOTHING;
        }
        if (s.thing != HOLDS_BOTTLE || !isOf(s.kind, kind)) {
            return KIND;
        }
        return worthOf(s.kind, s.years);
    }

    public int item(int slot, int place) {
        if (!isSlot(slot)) {
            return BAD;
        }
        Slot s = slots[slot];
        if (s.thing == HOLDS_NOTHING) {
            return NOTHING;
        }
        if (s.thing != HOLDS_SHEET) {
            return KIND;
        }
        if (!s.row.hasPlace(place)) {
            return INDEX;
        }
        return s.row.isNumber(place) ? s.row.places[place] : KIND;
    }

    public int rest(int slot, int n) {
        if (!isSlot(slot)) {
            return BAD;
        }
        Slot s = slots[slot];
        if (s.thing == HOLDS_NOTHING) {
            return NOTHING;
        }
        if (s.thing != HOLDS_NUMBER) {
            return KIND;
        }
        return n == 0 ? NO : s.number % n;
    }

    // ---- rows, images

    public int tell(int v) {
        if (waitingCount >= MOST_WAITING) {
            return FULL;
        }
        waiting[waitingCount] = v;
        waitingCount++;
        return waitingCount;
    }

    public int check(int n) {
        int given = waitingCount;
        waitingCount = 0;
        if (!within(n, 1, MOST_YEARS_CHECKED)) {
            return BAD;
        }
        if (!imageKept) {
            return NO;
        }
        thought.becomeAs(image);
        int right = 0;
        for (int k = 0; k < n && thought.year < LAST_YEAR; k++) {
            thought.passYear();
            if (right >= given || waiting[right] != thought.strengthOfAll()) {
                return 1 + right;
            }
            right++;
            if (right >= given || waiting[right] != thought.holdOfAll()) {
                return 1 + right;
            }
            right++;
        }
        return right == given ? 0 : 1 + right;
    }

    public int keep() {
        image.becomeAs(now);
        imageKept = true;
        return now.count;
    }

    public int back() {
        if (!imageKept) {
            return NO;
        }
        now.becomeAs(image);
        return now.count;
    }

    public int count(int what) {
        switch (what) {
            case 0:
                return now.count;
            case 1:
                return now.year;
            case 2:
                return now.humid;
            case 3:
                return now.wear;
            case 4:
                return now.textCount;
            case 5:
                return waitingCount;
            case 6:
                return reader.size;
            case 7:
                return now.z;
            default:
                return BAD;
        }
    }

    // ---- what the calls share

    private static boolean within(int v, int least, int most) {
        return v >= least && v <= most;
    }

    private static int heldWithin(int v, int least, int most) {
        return Math.max(least, Math.min(v, most));
    }

    private boolean isBottle(int bottle) {
        return within(bottle, 0, now.count - 1);
    }

    private static boolean isLayer(int layer) {
        return within(layer, 0, LAYERS - 1);
    }

    private static boolean isKind(int kind) {
        return within(kind, 0, KINDS - 1);
    }

    private static boolean isSheet(int sheet) {
        return within(sheet, 0, SHEETS - 1);
    }

    private static boolean isSlot(int slot) {
        return within(slot, 0, SLOTS - 1);
    }

    /** Whether a KIND is another one, or stands under it. */
    private static boolean isOf(int kind, int other) {
        int k = kind;
        for (int step = 0; step < KINDS && isKind(k); step++) {
            if (k == other) {
                return true;
            }
            k = ABOVE[k];
        }
        return false;
    }

    private static int worthOf(int kind, int years) {
        switch (kind) {
            case SOUND:
                return years + 7;
            case SOAKED:
                return 2 * (years + 7);
            case DRY:
                return MOST_YEARS - years;
            case CRUMBLY:
                return MOST_YEARS - years - 6;
            case MUSTY:
                return 3;
            default:
                return years;
        }
    }

    /** NONE on either side is no number at all, so it is never fewer and always gives way. */
    private static boolean isFewer(int v, int than) {
        return v != NONE && (than == NONE || v < than);
    }

    private void thinkAhead(int n) {
        thought.becomeAs(now);
        thought.passYears(n);
    }

    private int crumbsThought(int bottle, int force) {
        neck.look(thought, thought.bottles[bottle]);
        return neck.fewestCrumbs(force);
    }

    private static int differences(Bottle bottle, Row row) {
        int together = 0;
        for (int k = 0; k < row.size; k++) {
            if (row.isNumber(k)) {
                together += Math.abs((k < LAYERS ? bottle.grips(k) : 0) - row.places[k]);
            }
        }
        return together;
    }

    /** One BOTTLE. */
    private static final class Bottle {
        final int[] strength;
        final int[] hold;
        int kind;
        int years;
        int lying;
        int left;
        int crumbs;
        int warmth;

        Bottle() {
            strength = new int[LAYERS];
            hold = new int[LAYERS];
        }

        void becomeNew(int newKind, int newYears, int newLying) {
            kind = newKind;
            years = newYears;
            lying = newLying;
            left = LAYERS;
            crumbs = 0;
            warmth = 0;
            for (int k = 0; k < LAYERS; k++) {
                strength[k] = 12;
                hold[k] = 6;
            }
        }

        void becomeAs(Bottle other) {
            kind = other.kind;
            years = other.years;
            lying = other.lying;
            left = other.left;
            crumbs = other.crumbs;
            warmth = other.warmth;
            System.arraycopy(other.strength, 0, strength, 0, LAYERS);
            System.arraycopy(other.hold, 0, hold, 0, LAYERS);
        }

        int grips(int layer) {
            int asCork = Math.max(hold[layer] - 3 * warmth, 0);
            switch (kind) {
                case SOAKED:
                    return Math.max(asCork - 4, 0);
                case DRY:
                    return asCork + 3;
                case CRUMBLY:
                    return asCork + 4;
                case MUSTY:
                    return asCork / 2;
                default:
                    return asCork;
            }
        }

        int held() {
            int together = 0;
            for (int k = LAYERS - left; k < LAYERS; k++) {
                together += grips(k);
            }
            return together;
        }

        void age(boolean damp, int wear) {
            years = Math.min(years + 1, MOST_YEARS);
            if (damp && lying == 1) {
                hold[LAYERS - 1] = Math.max(hold[LAYERS - 1] - wear, 0);
            } else if (!damp && lying == 0) {
                strength[0] = Math.max(strength[0] - wear, 0);
            }
        }
    }

    /** All that AN IMAGE keeps. */
    private static final class Cellar {
        final Bottle[] bottles;
        final Text[] texts;
        /** The number of the TEXT that counts for each KEY, or NONE. */
        final int[] counts;
        int count;
        int textCount;
        int humid;
        int wear;
        int year;
        int z;

        Cellar() {
            bottles = new Bottle[MOST_BOTTLES];
            for (int k = 0; k < MOST_BOTTLES; k++) {
                bottles[k] = new Bottle();
            }
            texts = new Text[MOST_TEXTS];
            counts = new int[KEYS];
            for (int k = 0; k < KEYS; k++) {
                counts[k] = NONE;
            }
            humid = 50;
            wear = 1;
            z = 1;
        }

        void becomeAs(Cellar other) {
            count = other.count;
            for (int k = 0; k < count; k++) {
                bottles[k].becomeAs(other.bottles[k]);
            }
            textCount = other.textCount;
            for (int k = 0; k < textCount; k++) {
                texts[k] = other.texts[k];
            }
            for (int k = 0; k < KEYS; k++) {
                counts[k] = other.counts[k];
            }
            humid = other.humid;
            wear = other.wear;
            year = other.year;
            z = other.z;
        }

        void addText(Text text) {
            if (textCount < MOST_TEXTS) {
                texts[textCount] = text;
                counts[text.key] = textCount;
                textCount++;
            }
        }

        Text textOf(int key) {
            return counts[key] == NONE ? null : texts[counts[key]];
        }

        int draw() {
            z = z * 1103515245 + 12345;
            return z >>> 8;
        }

        void drawBottle() {
            if (count >= MOST_BOTTLES) {
                return;
            }
            Bottle b = bottles[count];
            int kind = draw() % KINDS;
            int years = draw() % 60;
            int lying = draw() % 2;
            b.becomeNew(kind, years, lying);
            for (int k = 0; k < LAYERS; k++) {
                b.strength[k] = draw() % (MOST_OF_LAYER + 1);
            }
            count++;
        }

        /** One YEAR, whatever THE YEAR is: whether it was damp. */
        boolean passYear() {
            boolean damp = draw() % 100 < humid;
            for (int k = 0; k < count; k++) {
                if (bottles[k].left == LAYERS) {
                    bottles[k].age(damp, wear);
                }
            }
            if (count > 0) {
                int[] strength = bottles[draw() % count].strength;
                int layer = draw() % LAYERS;
                strength[layer] = Math.max(strength[layer] - 1, 0);
            }
            year++;
            return damp;
        }

        void passYears(int n) {
            for (int k = 0; k < n; k++) {
                passYear();
            }
        }

        int strong(Bottle b, int layer) {
            Text text = textOf(HARD);
            int asCork = text == null ? b.strength[layer]
                : heldWithin(text.gives(b.strength[layer], b.years, layer), 0, 99);
            int asDry = layer <= 2 ? Math.max(asCork - 5, 0) : asCork;
            switch (b.kind) {
                case SOUND:
                    return asCork + 6;
                case SOAKED:
                    return (asCork + 6) / 2;
                case DRY:
                    return asDry;
                case CRUMBLY:
                    return Math.max(asDry - b.years / 20, 0);
                default:
                    return asCork;
            }
        }

        int strengthOfAll() {
            int together = 0;
            for (int k = 0; k < count; k++) {
                for (int n = 0; n < LAYERS; n++) {
                    together += bottles[k].strength[n];
                }
            }
            return together;
        }

        int holdOfAll() {
            int together = 0;
            for (int k = 0; k < count; k++) {
                for (int n = 0; n < LAYERS; n++) {
                    together += bottles[k].hold[n];
                }
            }
            return together;
        }

        int crumbsOfAll() {
            int together = 0;
            for (int k = 0; k < count; k++) {
                together += bottles[k].crumbs;
            }
            return together;
        }
    }

    /** What is left in one neck, looked at once, so that many PULLS can be thought without asking the TEXT anew. */
    private static final class Neck {
        final int[] strong;
        /** GRIPS of a LAYER and of all beneath it, together. */
        final int[] gripsFrom;
        /** By how many LAYERS are left: the fewest CRUMBS till none is, and the PULLS for it. */
        final int[] fewest;
        final int[] pulls;
        int left;
        int came;
        int fell;

        Neck() {
            strong = new int[LAYERS];
            gripsFrom = new int[LAYERS + 1];
            fewest = new int[LAYERS + 1];
            pulls = new int[LAYERS + 1];
        }

        void look(Cellar cellar, Bottle bottle) {
            left = bottle.left;
            for (int k = LAYERS - 1; k >= LAYERS - left; k--) {
                strong[k] = cellar.strong(bottle, k);
                gripsFrom[k] = gripsFrom[k + 1] + bottle.grips(k);
            }
        }

        /** A PULL with so many LAYERS left (1 at least): came and fell tell what it brings. */
        void think(int leftThen, int depth, int force) {
            int first = LAYERS - leftThen;
            int end = first + Math.min(depth, leftThen);
            int held = gripsFrom[first];
            came = 0;
            fell = 0;
            if (force < held) {
                return;
            }
            int together = 0;
            for (int k = first; k < end; k++) {
                together += strong[k];
            }
            if (together < held / 2) {
                came = end - first;
                fell = 3 * came;
                return;
            }
            came = leftThen;
            for (int k = end - 1; k < LAYERS; k++) {
                if (strong[k] < gripsFrom[k + 1]) {
                    came = k + 1 - first;
                    fell = 2;
                    return;
                }
            }
        }

        int bestDepth(int force) {
            int best = 1;
            int most = -1;
            int least = 0;
            for (int depth = 1; depth <= left; depth++) {
                think(left, depth, force);
                if (came > most || came == most && fell < least) {
                    best = depth;
                    most = came;
                    least = fell;
                }
            }
            return best;
        }

        /** CRUMBS of the TREE, NONE if nothing comes; its PULLS stand at pulls[left] then. */
        int fewestCrumbs(int force) {
            if (left > 0 && force < gripsFrom[LAYERS - left]) {
                return NONE;
            }
            for (int k = 1; k <= left; k++) {
                decide(k, force);
            }
            return fewest[left];
        }

        /** GRIPS are never below 0, so a FORCE that moves all that is left moves any rest of it too. */
        private void decide(int leftThen, int force) {
            fewest[leftThen] = NONE;
            for (int depth = 1; depth <= leftThen; depth++) {
                think(leftThen, depth, force);
                int behind = leftThen - came;
                int crumbs = fell + fewest[behind];
                int steps = 1 + pulls[behind];
                if (isFewer(crumbs, fewest[leftThen]) || crumbs == fewest[leftThen] && steps < pulls[leftThen]) {
                    fewest[leftThen] = crumbs;
                    pulls[leftThen] = steps;
                }
            }
        }
    }

    /** One TEXT, its E worked out to steps in the order in which they are done. */
    private static final class Text {
        final int key;
        final int operands;
        final int[] steps;
        /** So many numbers can never wait at once: each is put by a NUMBER or a NAME. */
        final int[] stack;

        Text(int key, int operands, int[] from, int size) {
            this.key = key;
            this.operands = operands;
            steps = new int[size];
            System.arraycopy(from, 0, steps, 0, size);
            stack = new int[operands];
        }

        /** a, b, c are what the NAMES of the KEY stand for, in the order in which Reader.takesName numbers them. */
        int gives(int a, int b, int c) {
            int top = -1;
            for (int k = 0; k < steps.length; k++) {
                int step = steps[k];
                if (step > Reader.FIRST_SIGN && top + 1 < stack.length) {
                    top++;
                    stack[top] = step >= 0 ? step : step == -1 ? a : step == -2 ? b : c;
                } else if (step == Reader.NOT && top >= 0) {
                    stack[top] = bit(stack[top] == 0);
                } else if (top >= 1) {
                    top--;
                    stack[top] = joined(Reader.FIRST_SIGN - step, stack[top], stack[top + 1]);
                }
            }
            return top == 0 ? stack[0] : 0;
        }

        private static int joined(int sign, int a, int b) {
            switch (sign) {
                case 0:
                    return bit(a != 0 || b != 0);
                case 1:
                    return bit(a != 0 && b != 0);
                case 2:
                    return bit(a < b);
                case 3:
                    return bit(a == b);
                case 4:
                    return bit(a > b);
                case 5:
                    return a + b;
                case 6:
                    return a - b;
                case 7:
                    return a * b;
                default:
                    return b == 0 ? 0 : a / b;
            }
        }

        private static int bit(boolean v) {
            return v ? 1 : 0;
        }
    }

    /** THE TAPE, and how it is read as a TEXT: steps are NUMBERS as they are, NAMES from -1 down, signs from FIRST_SIGN down. */
    private static final class Reader {
        static final String SIGNS = "|&<=>+-*/";
        static final int FIRST_SIGN = -10, NOT = -19;
        /** How tightly each of SIGNS binds; a PIECE stands above them all. */
        private static final int[] LEVELS = {0, 1, 2, 2, 2, 3, 3, 4, 4};
        private static final int TEST = 2, PIECE = 5, MOST_OPEN = 8, MOST_DIGITS = 4;
        private static final int END = 0, LETTERS = 1, DIGITS = 2, SIGN = 3, STUCK = 4;

        int size;
        int fault;
        private final int[] bytes;
        private final int[] steps;
        private int key;
        private int operands;
        private int stepCount;
        private int form;
        private int start;
        private int end;
        private int openRounds;
        private int openNots;

        Reader() {
            bytes = new int[MOST_TAPE];
            steps = new int[MOST_TAPE];
        }

        void putBytes(int v) {
            for (int shift = 24; shift >= 0 && size < MOST_TAPE; shift -= 8) {
                bytes[size] = v >>> shift & 255;
                size++;
            }
        }

        /** Uses THE TAPE up: whether it is a TEXT; if not, fault has the place. */
        boolean parse() {
            operands = 0;
            stepCount = 0;
            openRounds = 0;
            openNots = 0;
            form = END;
            end = 0;
            advance();
            boolean good = takesKey() && takesLevel(0) && form == END;
            fault = start;
            size = 0;
            return good;
        }

        Text made() {
            return new Text(key, operands, steps, stepCount);
        }

        private static int formOf(int b) {
            if (b >= 'a' && b <= 'z') {
                return LETTERS;
            }
            return b >= '0' && b <= '9' ? DIGITS : SIGN;
        }

        /** Goes on to the next word or sign. */
        private void advance() {
            boolean behindWord = form == LETTERS || form == DIGITS;
            int before = end;
            start = end;
            while (start < size && bytes[start] == ' ') {
                start++;
            }
            end = start;
            if (start >= size) {
                form = END;
                return;
            }
            form = formOf(bytes[start]);
            end++;
            while (form != SIGN && end < size && formOf(bytes[end]) == form) {
                end++;
            }
            if (behindWord && form != SIGN && start == before) {
                form = STUCK;
            }
        }

        private boolean isWord(String word) {
            if (form != LETTERS || end - start != word.length()) {
                return false;
            }
            for (int k = 0; k < word.length(); k++) {
                if (bytes[start + k] != word.charAt(k)) {
                    return false;
                }
            }
            return true;
        }

        private boolean isSign(int sign) {
            return form == SIGN && bytes[start] == sign;
        }

        private boolean takesKey() {
            key = isWord("hard") ? HARD : isWord("fee") ? FEE : isWord("fine") ? FINE : KEYS;
            if (key == KEYS) {
                return false;
            }
            advance();
            return true;
        }

        /** Of SIGNS the one that stands here and binds as tightly as that; -1 if there is none. */
        private int signOf(int level) {
            int sign = form == SIGN ? SIGNS.indexOf((char) bytes[start]) : -1;
            return sign >= 0 && LEVELS[sign] == level ? sign : -1;
        }

        /** No deeper than MOST_OPEN rounds and MOST_OPEN nots, as takesRound and takesNot refuse more. */
        private boolean takesLevel(int level) {
            if (level >= PIECE) {
                return takesPiece();
            }
            if (!takesLevel(level + 1)) {
                return false;
            }
            int sign = signOf(level);
            for (int k = 0; k < MOST_TAPE && sign >= 0; k++) {
                advance();
                if (!takesLevel(level + 1)) {
                    return false;
                }
                addStep(FIRST_SIGN - sign);
                sign = level == TEST ? -1 : signOf(level);
            }
            return true;
        }

        private boolean takesPiece() {
            if (form == DIGITS) {
                return takesNumber();
            }
            if (form == LETTERS) {
                return takesName();
            }
            return isSign('!') ? takesNot() : isSign('(') && takesRound();
        }

        private boolean takesNumber() {
            if (end - start > MOST_DIGITS) {
                return false;
            }
            int number = 0;
            for (int k = start; k < end; k++) {
                number = number * 10 + bytes[k] - '0';
            }
            addOperand(number);
            return true;
        }

        private boolean takesName() {
            String names = key == HARD ? "syl" : key == FEE ? "cy" : "yl";
            int name = end - start == 1 ? names.indexOf((char) bytes[start]) : -1;
            if (name < 0) {
                return false;
            }
            addOperand(-1 - name);
            return true;
        }

        private boolean takesNot() {
            if (openNots >= MOST_OPEN) {
                return false;
            }
            openNots++;
            advance();
            if (!takesPiece()) {
                return false;
            }
            openNots--;
            addStep(NOT);
            return true;
        }

        private boolean takesRound() {
            if (openRounds >= MOST_OPEN) {
                return false;
            }
            openRounds++;
            advance();
            if (!takesLevel(0) || !isSign(')')) {
                return false;
            }
            openRounds--;
            advance();
            return true;
        }

        private void addOperand(int step) {
            operands++;
            addStep(step);
            advance();
        }

        private void addStep(int step) {
            if (stepCount < steps.length) {
                steps[stepCount] = step;
                stepCount++;
            }
        }
    }

    /** A row of places; NO NUMBER stands as NONE, which no place can be otherwise. */
    private static final class Row {
        final int[] places;
        int sort;
        int size;

        Row() {
            places = new int[MOST_PLACES];
            sort = MISSING;
        }

        void becomeEmpty(int newSort, int newSize) {
            sort = newSort;
            size = newSize;
            for (int k = 0; k < MOST_PLACES; k++) {
                places[k] = 0;
            }
        }

        void becomeAs(Row other) {
            sort = other.sort;
            size = other.size;
            System.arraycopy(other.places, 0, places, 0, MOST_PLACES);
        }

        boolean hasPlace(int place) {
            return within(place, 0, size - 1);
        }

        boolean hasRange(int place, int many) {
            return place >= 0 && many >= 0 && place <= size && many <= size - place;
        }

        boolean isNumber(int place) {
            return hasPlace(place) && places[place] != NONE;
        }
    }

    /** A SLOT; of a BOTTLE it needs no more than WORTH is worked out from. */
    private static final class Slot {
        final Row row;
        int thing;
        int kind;
        int years;
        int number;

        Slot() {
            row = new Row();
        }
    }
}
