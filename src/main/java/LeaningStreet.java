import java.util.Arrays;

/** A street of houses that lean on one another; ../shared/DOC.md says what each call answers. */
public final class LeaningStreet {
    public static final int BAD = -1000000001, NO = -1000000002, FULL = -1000000003, NONE = -1000000005, NOTHING = -1000000011, KIND = -1000000012, INDEX = -1000000013, SIZE = -1000000014;

    private static final int TIMBER = 1, BRICK = 2, EMPTY = 3, DOUBLE = 4, FLOATING = 5, KINDS = 6;
    /** For each KIND the one that it stands under; -1 above all. */
    private static final int[] ABOVE = {-1, 0, 0, 1, 2, 0};

    private static final int WALL = 3, PROP = 5;
    /** Bounds of KIND, WEIGHT, LEAN, WALL, CRACK, PROP, by the numbers that told and set use. */
    private static final int[] LEAST = {0, 1, -50, 0, 0, 0};
    private static final int[] MOST = {5, 99, 50, 99, 999, 9};

    private static final int HOUSES = 9, TEXTS = 14, TAPE = 96, SHEETS = 4, PLACES = 24, SLOTS = 5, WAITING = 60;
    private static final int LAST_DAY = 9999, MOST_SNOW = 20, LONGEST = 300, BROKEN = 100, STEEP = 20;
    private static final int PUSH = 0, FEE = 1, FINE = 2, KEYS = 3;
    private static final int MISSING = -1, SHORTS = 0, FLOATS = 1, FARTHEST = 99999;
    private static final int HOLDS_NOTHING = 0, HOLDS_HOUSE = 1, HOLDS_SHEET = 2, HOLDS_NUMBER = 3;
    private static final int DEEPEST = 8, NAMES = 10000;

    private final Street now = new Street();
    private final Street image = new Street();
    /** What is only thought happens here; made once, since all calls share one room. */
    private final Street thought = new Street();
    private final Reader tape = new Reader();
    private final Row[] sheets = new Row[SHEETS];
    private final Slot[] slots = new Slot[SLOTS];
    private final int[] waiting = new int[WAITING];
    private int waits = 0;
    private boolean kept = false;

    public LeaningStreet() {
        for (int i = 0; i < SHEETS; i++) {
            sheets[i] = new Row();
        }
        for (int i = 0; i < SLOTS; i++) {
            slots[i] = new Slot();
        }
    }

    // ---- houses

    public int house(int kind, int weight, int lean, int wall) {
        if (!fits(0, kind) || !fits(1, weight) || !fits(2, lean) || !fits(WALL, wall)) {
            return BAD;
        }
        if (now.many >= HOUSES) {
            return FULL;
        }
        now.build(kind, weight, lean, wall);
        return now.many - 1;
    }

    public int told(int house, int what) {
        if (!isHouse(house) || what < 0 || what > 10) {
            return BAD;
        }
        House told = now.houses[house];
        switch (what) {
            case 6:
                return told.stands ? 1 : 0;
            case 7:
                return now.pushOf(told);
            case 8:
                return told.bearing();
            case 9:
                now.workOutThrusts();
                return now.thrusts[house];
            case 10:
                return told.worth();
            default:
                return told.part(what);
        }
    }

    public int as(int house, int kind) {
        if (!isHouse(house) || !isKind(kind)) {
            return BAD;
        }
        return now.houses[house].isOf(kind) ? now.houses[house].wall : KIND;
    }

    public int turns(int house, int kind) {
        if (!isHouse(house) || !isKind(kind)) {
            return BAD;
        }
        int was = now.houses[house].kind;
        now.houses[house].kind = kind;
        return was;
    }

    public int set(int house, int what, int v) {
        if (!isHouse(house) || what < 1 || what > PROP || !fits(what, v)) {
            return BAD;
        }
        int was = now.houses[house].part(what);
        now.houses[house].becomes(what, v);
        return was;
    }

    public int fells(int house) {
        if (!isHouse(house)) {
            return BAD;
        }
        if (!now.houses[house].stands) {
            return NO;
        }
        now.houses[house].fall();
        return now.howManyStand();
    }

    public int raises(int house) {
        if (!isHouse(house)) {
            return BAD;
        }
        if (now.houses[house].stands) {
            return NO;
        }
        now.houses[house].rise();
        return now.howManyStand();
    }

    public int snow(int v) {
        if (v < -MOST_SNOW || v > MOST_SNOW) {
            return BAD;
        }
        int was = now.snow;
        now.snow = v;
        return was;
    }

    public int deal(int n) {
        if (n < 1 || n > HOUSES) {
            return BAD;
        }
        int came = Math.min(n, HOUSES - now.many);
        for (int i = 0; i < came; i++) {
            now.buildByLot();
        }
        return came;
    }

    public int seed(int v) {
        int was = now.z;
        now.z = v;
        return was;
    }

    // ---- days

    public int days(int n) {
        if (n < 1 || n > 100) {
            return BAD;
        }
        int stood = now.howManyStand();
        now.goOn(Math.min(n, LAST_DAY - now.day));
        return stood - now.howManyStand();
    }

    public int street(int what) {
        switch (what) {
            case 0:
                return now.rent;
            case 1:
                return now.standing();
            case 2:
                return now.cracks();
            case 3:
                return now.props();
            case 4:
                return now.notHolding();
            default:
                return BAD;
        }
    }

    // ---- what will be

    public int behind(int n, int what) {
        if (n < 0 || n > 100 || what < 0 || what >= 3 + now.many) {
            return BAD;
        }
        thinkOf(now).goOn(n);
        switch (what) {
            case 0:
                return thought.standing();
            case 1:
                return thought.cracks();
            case 2:
                return thought.rent;
            default:
                return thought.houses[what - 3].lean;
        }
    }

    public int lasts() {
        int day = thinkOf(now).firstFall(LONGEST);
        return day == 0 ? NONE : day;
    }

    public int taken(int house, int n) {
        if (!isHouse(house) || n < 1 || n > 60) {
            return BAD;
        }
        if (!now.houses[house].stands) {
            return NO;
        }
        thinkOf(now).goOn(n);
        int asItIs = thought.standing();
        thinkOf(now).houses[house].fall();
        thought.goOn(n);
        return asItIs & ~thought.standing() & ~(1 << house);
    }

    public int propped(int n) {
        if (n < 1 || n > 40) {
            return BAD;
        }
        if (thinkOf(now).firstFall(n) == 0) {
            return 0;
        }
        int helped = thought.crackedSince(now);
        for (int more = 1; more <= MOST[PROP]; more++) {
            for (int k = 0; k < now.many; k++) {
                if ((helped >> k & 1) == 1 && isEnough(k, more, n)) {
                    return 10 * k + more;
                }
            }
        }
        return NONE;
    }

    public int wall(int n, int what) {
        if (n < 1 || n > 60 || what < 0 || what > 1) {
            return BAD;
        }
        int worst = NONE;
        int most = -1;
        for (int k = 0; k < now.many; k++) {
            thinkWithoutWall(k, n);
            int fallen = thought.many - thought.howManyStand();
            if (fallen > most) {
                worst = k;
                most = fallen;
            }
        }
        return what == 0 || worst == NONE ? worst : most;
    }

    public int snows(int n) {
        if (n < 1 || n > 60) {
            return BAD;
        }
        for (int snow = MOST_SNOW; snow >= 0; snow--) {
            thinkOf(now).snow = snow;
            if (thought.firstFall(n) == 0) {
                return snow;
            }
        }
        return NONE;
    }

    public int began(int sheet, int n, int what) {
        if (!isSheet(sheet) || n < 0 || n > 60 || what < 0 || what > 1) {
            return BAD;
        }
        if (sheets[sheet].sort == MISSING) {
            return NOTHING;
        }
        int best = NONE;
        int least = 0;
        for (int k = 0; k < now.many; k++) {
            thinkWithoutWall(k, n);
            int differs = thought.differsFrom(sheets[sheet]);
            if (best == NONE || differs < least) {
                best = k;
                least = differs;
            }
        }
        return what == 0 || best == NONE ? best : least;
    }

    public int fee() {
        Text law = now.counting[FEE];
        return law == null ? now.rent : law.value(now.rent, now.day, 0);
    }

    public int fine(int house) {
        if (!isHouse(house)) {
            return BAD;
        }
        House fined = now.houses[house];
        Text law = now.counting[FINE];
        return law == null ? fined.crack : law.value(fined.crack, fined.prop, 0);
    }

    // ---- texts

    public int feed(int a, int b, int c) {
        if (tape.many + 12 > TAPE) {
            return FULL;
        }
        tape.addBytesOf(a);
        tape.addBytesOf(b);
        tape.addBytesOf(c);
        return tape.many;
    }

    public int trim(int n) {
        if (n < 0 || n > tape.many) {
            return BAD;
        }
        tape.many = n;
        return n;
    }

    public int text() {
        boolean good = tape.isText();
        tape.many = 0;
        if (!good) {
            return -100 - tape.start;
        }
        if (now.texts >= TEXTS) {
            return FULL;
        }
        now.addText(tape.madeText(now.texts));
        return now.texts - 1;
    }

    public int textTold(int text, int what) {
        if (text < 0 || text >= now.texts || what < 0 || what > 1) {
            return BAD;
        }
        Text asked = now.allTexts[text];
        return asked == null ? BAD : what == 0 ? asked.key : asked.pieces;
    }

    public int why(int key) {
        if (key < 0 || key >= KEYS) {
            return BAD;
        }
        Text law = now.counting[key];
        return law == null ? NONE : law.number;
    }

    // ---- sheets, slots

    public int sheet(int sheet, int sort, int n) {
        if (!isSheet(sheet) || sort < MISSING || sort > FLOATS) {
            return BAD;
        }
        if (sort == MISSING) {
            sheets[sheet].begin(MISSING, 0);
            return 0;
        }
        if (n > PLACES) {
            return BAD;
        }
        if (n < 0) {
            return SIZE;
        }
        sheets[sheet].begin(sort, n);
        return n;
    }

    public int mark(int sheet, int place, int v) {
        if (!isSheet(sheet)) {
            return BAD;
        }
        Row row = sheets[sheet];
        if (row.sort == MISSING) {
            return NOTHING;
        }
        if (!row.hasPlace(place)) {
            return INDEX;
        }
        if (row.sort == SHORTS) {
            if (v == NONE) {
                return KIND;
            }
            row.places[place] = (short) v;
            return 1;
        }
        if (v != NONE && (v < -FARTHEST || v > FARTHEST)) {
            return BAD;
        }
        row.places[place] = v;
        return 1;
    }

    public int pour(int sheet) {
        if (!isSheet(sheet)) {
            return BAD;
        }
        if (sheets[sheet].sort == MISSING) {
            return NOTHING;
        }
        return now.takeWalls(sheets[sheet]);
    }

    public int reads(int sheet) {
        if (!isSheet(sheet)) {
            return BAD;
        }
        Row row = sheets[sheet];
        if (row.sort == MISSING) {
            return NOTHING;
        }
        for (int k = 0; k < row.many; k++) {
            if (row.isNumber(k) && (k >= now.many || row.places[k] != now.houses[k].lean)) {
                return k;
            }
        }
        return NONE;
    }

    public int copy(int from, int place, int to, int at, int many) {
        if (!isSheet(from) || !isSheet(to)) {
            return BAD;
        }
        Row source = sheets[from];
        Row target = sheets[to];
        if (source.sort == MISSING || target.sort == MISSING) {
            return NOTHING;
        }
        if (source.sort != target.sort) {
            return KIND;
        }
        if (!source.hasPlaces(place, many) || !target.hasPlaces(at, many)) {
            return INDEX;
        }
        System.arraycopy(source.places, place, target.places, at, many);
        return many;
    }

    public int lay(int slot, int thing, int k) {
        if (!isSlot(slot) || thing < HOLDS_NOTHING || thing > HOLDS_NUMBER) {
            return BAD;
        }
        if (thing == HOLDS_HOUSE && !isHouse(k) || thing == HOLDS_SHEET && !isSheet(k)) {
            return BAD;
        }
        if (thing == HOLDS_SHEET && sheets[k].sort == MISSING) {
            return NOTHING;
        }
        Slot held = slots[slot];
        int was = held.thing;
        held.thing = thing;
        if (thing == HOLDS_HOUSE) {
            held.house.beLike(now.houses[k]);
        } else if (thing == HOLDS_SHEET) {
            held.row.beLike(sheets[k]);
        } else {
            held.number = k;
        }
        return was;
    }

    public int ask(int slot, int kind) {
        if (!isSlot(slot) || !isKind(kind)) {
            return BAD;
        }
        Slot held = slots[slot];
        if (held.thing == HOLDS_NOTHING) {
            return NOTHING;
        }
        if (held.thing != HOLDS_HOUSE || !held.house.isOf(kind)) {
            return KIND;
        }
        return held.house.worth();
    }

    public int item(int slot, int place) {
        if (!isSlot(slot)) {
            return BAD;
        }
        Slot held = slots[slot];
        if (held.thing == HOLDS_NOTHING) {
            return NOTHING;
        }
        if (held.thing != HOLDS_SHEET) {
            return KIND;
        }
        if (!held.row.hasPlace(place)) {
            return INDEX;
        }
        return held.row.isNumber(place) ? held.row.places[place] : KIND;
    }

    public int rest(int slot, int n) {
        if (!isSlot(slot)) {
            return BAD;
        }
        Slot held = slots[slot];
        if (held.thing == HOLDS_NOTHING) {
            return NOTHING;
        }
        if (held.thing != HOLDS_NUMBER) {
            return KIND;
        }
        return n == 0 ? NO : held.number % n;
    }

    // ---- rows, images

    public int tell(int v) {
        if (waits >= WAITING) {
            return FULL;
        }
        waiting[waits] = v;
        waits++;
        return waits;
    }

    public int check(int n) {
        int given = waits;
        waits = 0;
        if (n < 1 || n > 30) {
            return BAD;
        }
        if (!kept) {
            return NO;
        }
        int due = 2 * Math.min(n, LAST_DAY - image.day);
        thinkOf(image);
        for (int i = 0; i < due; i++) {
            if (i % 2 == 0) {
                thought.goOn(1);
            }
            int right = i % 2 == 0 ? thought.howManyStand() : thought.cracks();
            if (i >= given || waiting[i] != right) {
                return 1 + i;
            }
        }
        return given > due ? 1 + due : 0;
    }

    public int keep() {
        image.beLike(now);
        kept = true;
        return now.many;
    }

    public int back() {
        if (!kept) {
            return NO;
        }
        now.beLike(image);
        return now.many;
    }

    public int count(int what) {
        switch (what) {
            case 0:
                return now.many;
            case 1:
                return now.howManyStand();
            case 2:
                return now.day;
            case 3:
                return now.snow;
            case 4:
                return now.texts;
            case 5:
                return waits;
            case 6:
                return tape.many;
            case 7:
                return now.z;
            default:
                return BAD;
        }
    }

    // ---- helpers of the calls

    private static boolean fits(int what, int v) {
        return v >= LEAST[what] && v <= MOST[what];
    }

    private boolean isHouse(int house) {
        return house >= 0 && house < now.many;
    }

    private static boolean isKind(int kind) {
        return kind >= 0 && kind < KINDS;
    }

    private static boolean isSheet(int sheet) {
        return sheet >= 0 && sheet < SHEETS;
    }

    private static boolean isSlot(int slot) {
        return slot >= 0 && slot < SLOTS;
    }

    private Street thinkOf(Street other) {
        thought.beLike(other);
        return thought;
    }

    private void thinkWithoutWall(int house, int n) {
        thinkOf(now).houses[house].wall = 0;
        thought.goOn(n);
    }

    private boolean isEnough(int house, int more, int n) {
        if (now.houses[house].prop + more > MOST[PROP]) {
            return false;
        }
        thinkOf(now).houses[house].prop += more;
        return thought.firstFall(n) == 0;
    }

    /** One HOUSE; what it PUSHES, BEARS and is WORTH goes by its KIND. */
    private static final class House {
        int kind;
        int weight;
        int lean;
        int wall;
        int crack;
        int prop;
        boolean stands;

        void beLike(House other) {
            kind = other.kind;
            weight = other.weight;
            lean = other.lean;
            wall = other.wall;
            crack = other.crack;
            prop = other.prop;
            stands = other.stands;
        }

        void fall() {
            stands = false;
            prop = 0;
        }

        void rise() {
            stands = true;
            lean = 0;
            crack = 0;
        }

        int part(int what) {
            switch (what) {
                case 0:
                    return kind;
                case 1:
                    return weight;
                case 2:
                    return lean;
                case WALL:
                    return wall;
                case 4:
                    return crack;
                default:
                    return prop;
            }
        }

        void becomes(int what, int v) {
            switch (what) {
                case 1:
                    weight = v;
                    break;
                case 2:
                    lean = v;
                    break;
                case WALL:
                    wall = v;
                    break;
                case 4:
                    crack = v;
                    break;
                default:
                    prop = v;
                    break;
            }
        }

        boolean isOf(int other) {
            int up = kind;
            for (int steps = 0; steps < KINDS && up >= 0; steps++) {
                if (up == other) {
                    return true;
                }
                up = ABOVE[up];
            }
            return false;
        }

        int pushing(int given) {
            int asHouse = Math.max(0, Math.min(999, given));
            switch (kind) {
                case TIMBER:
                    return asHouse / 2;
                case EMPTY:
                    return Math.max(0, asHouse / 2 - 5);
                case BRICK:
                    return asHouse + 4;
                case DOUBLE:
                    return 2 * (asHouse + 4);
                case FLOATING:
                    return 0;
                default:
                    return asHouse;
            }
        }

        int bearing() {
            int asHouse = wall + 10 * prop;
            switch (kind) {
                case TIMBER:
                case EMPTY:
                    return asHouse + 5;
                case BRICK:
                case DOUBLE:
                    return 2 * asHouse;
                case FLOATING:
                    return 999;
                default:
                    return asHouse;
            }
        }

        int worth() {
            switch (kind) {
                case TIMBER:
                    return wall + 7;
                case EMPTY:
                    return 2 * (wall + 7);
                case BRICK:
                    return 99 - wall;
                case DOUBLE:
                    return 99 - wall - 5;
                case FLOATING:
                    return 6;
                default:
                    return wall;
            }
        }
    }

    /** All that an IMAGE keeps, and how its DAYS go. */
    private static final class Street {
        final House[] houses = new House[HOUSES];
        final Text[] allTexts = new Text[TEXTS];
        /** For each KEY the TEXT that counts, or null. */
        final Text[] counting = new Text[KEYS];
        final int[] thrusts = new int[HOUSES];
        /** The next ones that STAND, as workOutThrusts found them; -1: THE CHURCH. */
        final int[] lesser = new int[HOUSES];
        final int[] greater = new int[HOUSES];
        int many = 0;
        int texts = 0;
        int snow = 0;
        int rent = 0;
        int day = 0;
        int z = 1;

        Street() {
            for (int k = 0; k < HOUSES; k++) {
                houses[k] = new House();
            }
        }

        void beLike(Street other) {
            for (int k = 0; k < other.many; k++) {
                houses[k].beLike(other.houses[k]);
            }
            for (int i = 0; i < other.texts; i++) {
                allTexts[i] = other.allTexts[i];
            }
            for (int key = 0; key < KEYS; key++) {
                counting[key] = other.counting[key];
            }
            many = other.many;
            texts = other.texts;
            snow = other.snow;
            rent = other.rent;
            day = other.day;
            z = other.z;
        }

        void build(int kind, int weight, int lean, int wall) {
            if (many >= HOUSES) {
                return;
            }
            House built = houses[many];
            built.rise();
            built.kind = kind;
            built.weight = weight;
            built.lean = lean;
            built.wall = wall;
            built.prop = 0;
            many++;
        }

        void buildByLot() {
            int kind = draw() % KINDS;
            int weight = 1 + draw() % 60;
            int lean = draw() % 41 - 20;
            int wall = draw() % 60;
            build(kind, weight, lean, wall);
        }

        private int draw() {
            z = z * 1103515245 + 12345;
            return z >>> 8;
        }

        void addText(Text text) {
            if (texts >= TEXTS || text.key < 0 || text.key >= KEYS) {
                return;
            }
            allTexts[texts] = text;
            counting[text.key] = text;
            texts++;
        }

        int takeWalls(Row row) {
            int changed = 0;
            for (int k = 0; k < many && k < row.many; k++) {
                if (row.isNumber(k)) {
                    int wall = Math.max(LEAST[WALL], Math.min(MOST[WALL], row.places[k]));
                    changed += wall == houses[k].wall ? 0 : 1;
                    houses[k].wall = wall;
                }
            }
            return changed;
        }

        /** Beyond all HOUSES there is no CRACK; a number there is held against 0. */
        int differsFrom(Row row) {
            int differs = 0;
            for (int k = 0; k < row.many; k++) {
                if (row.isNumber(k)) {
                    int crack = k < many ? houses[k].crack : 0;
                    differs += Math.abs(crack - row.places[k]);
                }
            }
            return differs;
        }

        int pushOf(House house) {
            Text law = counting[PUSH];
            int leaning = Math.abs(house.lean);
            return house.pushing(law == null ? house.weight * leaning / 10 : law.value(house.weight, leaning, house.crack));
        }

        void workOutThrusts() {
            int last = -1;
            for (int k = 0; k < many; k++) {
                thrusts[k] = 0;
                lesser[k] = last;
                greater[k] = -1;
                if (!houses[k].stands) {
                    continue;
                }
                thrusts[k] = snow;
                if (last >= 0) {
                    greater[last] = k;
                    thrusts[k] += houses[last].lean > 0 ? pushOf(houses[last]) : 0;
                    thrusts[last] -= houses[k].lean < 0 ? pushOf(houses[k]) : 0;
                }
                last = k;
            }
        }

        private int tooMuch(int k) {
            return houses[k].stands ? Math.abs(thrusts[k]) - houses[k].bearing() : 0;
        }

        int notHolding() {
            workOutThrusts();
            int set = 0;
            for (int k = 0; k < many; k++) {
                if (tooMuch(k) > 0) {
                    set |= 1 << k;
                }
            }
            return set;
        }

        /** Whether anything moved or fell: if not, no later DAY differs either. */
        private boolean goOneDay() {
            workOutThrusts();
            boolean moved = crackAndMove();
            boolean fell = fallByCracks();
            if (fell) {
                fallByNeighbours();
            }
            rent += props();
            day++;
            return moved || fell;
        }

        private boolean crackAndMove() {
            boolean moved = false;
            for (int k = 0; k < many; k++) {
                int more = tooMuch(k);
                if (more > 0) {
                    House house = houses[k];
                    house.crack = Math.min(MOST[4], house.crack + more);
                    int lean = house.lean + (thrusts[k] > 0 ? 1 : -1);
                    house.lean = Math.max(LEAST[2], Math.min(MOST[2], lean));
                    moved = true;
                }
            }
            return moved;
        }

        private boolean fallByCracks() {
            boolean fell = false;
            for (int k = 0; k < many; k++) {
                if (houses[k].stands && houses[k].crack >= BROKEN) {
                    houses[k].fall();
                    fell = true;
                }
            }
            return fell;
        }

        private void fallByNeighbours() {
            boolean again = true;
            for (int round = 0; round < HOUSES && again; round++) {
                again = false;
                for (int k = 0; k < many; k++) {
                    if (houses[k].stands && hasLostItsRest(k)) {
                        houses[k].fall();
                        again = true;
                    }
                }
            }
        }

        /** By lesser and greater of this DAY's beginning, since those tell who stood ahead of it. */
        private boolean hasLostItsRest(int k) {
            int rest = houses[k].lean >= STEEP ? greater[k] : houses[k].lean <= -STEEP ? lesser[k] : -1;
            return rest >= 0 && !houses[rest].stands;
        }

        void goOn(int n) {
            for (int i = 1; i <= n; i++) {
                if (!goOneDay()) {
                    rent += (n - i) * props();
                    day += n - i;
                    return;
                }
            }
        }

        /** Behind how many DAYS (1 .. n) the first one falls; 0: none does. */
        int firstFall(int n) {
            int stood = howManyStand();
            for (int i = 1; i <= n; i++) {
                boolean changed = goOneDay();
                if (howManyStand() < stood) {
                    return i;
                }
                if (!changed) {
                    return 0;
                }
            }
            return 0;
        }

        int standing() {
            int set = 0;
            for (int k = 0; k < many; k++) {
                if (houses[k].stands) {
                    set |= 1 << k;
                }
            }
            return set;
        }

        /** Those that did not HOLD on some DAY since; PROPS on another one would have changed nothing. */
        int crackedSince(Street before) {
            int set = 0;
            for (int k = 0; k < many && k < before.many; k++) {
                if (houses[k].crack > before.houses[k].crack) {
                    set |= 1 << k;
                }
            }
            return set;
        }

        int howManyStand() {
            return Integer.bitCount(standing());
        }

        int cracks() {
            int sum = 0;
            for (int k = 0; k < many; k++) {
                sum += houses[k].crack;
            }
            return sum;
        }

        int props() {
            int sum = 0;
            for (int k = 0; k < many; k++) {
                sum += houses[k].prop;
            }
            return sum;
        }
    }

    /** A law as a row for a stack: a number itself, NAMES and which one for a name, less 0 a sign. */
    private static final class Text {
        final int number;
        final int key;
        final int pieces;
        private final int[] code;
        private final int[] stack;

        Text(int number, int key, int pieces, int[] code) {
            this.number = number;
            this.key = key;
            this.pieces = pieces;
            this.code = code;
            this.stack = new int[Math.max(1, pieces)];
        }

        int value(int first, int second, int third) {
            int top = -1;
            for (int step : code) {
                if (step >= 0 && top + 1 < stack.length) {
                    top++;
                    stack[top] = step < NAMES ? step : step == NAMES ? first : step == NAMES + 1 ? second : third;
                } else if (step == -'!' && top >= 0) {
                    stack[top] = stack[top] == 0 ? 1 : 0;
                } else if (step < 0 && top >= 1) {
                    top--;
                    stack[top] = joined(-step, stack[top], stack[top + 1]);
                }
            }
            return top >= 0 ? stack[0] : 0;
        }

        private static int joined(int sign, int left, int right) {
            switch (sign) {
                case '+':
                    return left + right;
                case '-':
                    return left - right;
                case '*':
                    return left * right;
                case '/':
                    return right == 0 ? 0 : left / right;
                case '<':
                    return left < right ? 1 : 0;
                case '=':
                    return left == right ? 1 : 0;
                case '>':
                    return left > right ? 1 : 0;
                case '&':
                    return left != 0 && right != 0 ? 1 : 0;
                default:
                    return left != 0 || right != 0 ? 1 : 0;
            }
        }
    }

    /** THE TAPE, and how it is read; each reading stops on the first word or sign that does not go on. */
    private static final class Reader {
        private static final int END = 0, LETTERS = 1, DIGITS = 2, SIGN = 3, GLUED = 4;

        final int[] bytes = new int[TAPE];
        int many = 0;
        /** Where the word or sign that is looked at begins; behind a reading that failed: the FAULT. */
        int start = 0;
        private int end = 0;
        private int sort = END;
        private int key = -1;
        private final int[] code = new int[TAPE];
        private int steps = 0;
        private int pieces = 0;

        void addBytesOf(int v) {
            for (int shift = 24; shift >= 0; shift -= 8) {
                if (many < TAPE) {
                    bytes[many] = v >>> shift & 255;
                    many++;
                }
            }
        }

        boolean isText() {
            end = 0;
            sort = END;
            steps = 0;
            pieces = 0;
            goNext();
            key = keyHere();
            if (key < 0) {
                return false;
            }
            goNext();
            return isOr(0, 0) && sort == END;
        }

        Text madeText(int number) {
            return new Text(number, key, pieces, Arrays.copyOf(code, steps));
        }

        private void goNext() {
            boolean behindWord = sort == LETTERS || sort == DIGITS;
            int from = end;
            start = end;
            while (start < many && bytes[start] == ' ') {
                start++;
            }
            end = start;
            sort = start < many ? sortOf(bytes[start]) : END;
            while (end < many && sortOf(bytes[end]) == sort && (end == start || sort != SIGN)) {
                end++;
            }
            if (behindWord && start == from && (sort == LETTERS || sort == DIGITS)) {
                sort = GLUED;
            }
        }

        private static int sortOf(int b) {
            return b >= 'a' && b <= 'z' ? LETTERS : b >= '0' && b <= '9' ? DIGITS : SIGN;
        }

        private int keyHere() {
            for (int k = 0; k < KEYS; k++) {
                if (sort == LETTERS && isWord(k == PUSH ? "push" : k == FEE ? "fee" : "fine")) {
                    return k;
                }
            }
            return -1;
        }

        private boolean isWord(String word) {
            if (word.length() != end - start) {
                return false;
            }
            for (int i = 0; i < word.length() && start + i < many; i++) {
                if (word.charAt(i) != bytes[start + i]) {
                    return false;
                }
            }
            return true;
        }

        private boolean isAt(char sign) {
            return sort == SIGN && start < many && bytes[start] == sign;
        }

        private void write(int step) {
            if (steps < TAPE) {
                code[steps] = step;
                steps++;
            }
        }

        /** The sign that is looked at, if it is one of these, and goes past it; else 0. */
        private int passed(char one, char other) {
            int sign = isAt(one) ? one : isAt(other) ? other : 0;
            if (sign != 0) {
                goNext();
            }
            return sign;
        }

        // open: how many ( are open around this; nots: how many ! are.

        private boolean isOr(int open, int nots) {
            boolean good = isAnd(open, nots);
            for (int i = 0; i < TAPE && good && passed('|', '|') != 0; i++) {
                good = isAnd(open, nots);
                write(-'|');
            }
            return good;
        }

        private boolean isAnd(int open, int nots) {
            boolean good = isTest(open, nots);
            for (int i = 0; i < TAPE && good && passed('&', '&') != 0; i++) {
                good = isTest(open, nots);
                write(-'&');
            }
            return good;
        }

        private boolean isTest(int open, int nots) {
            if (!isSum(open, nots)) {
                return false;
            }
            int sign = passed('<', '>');
            if (sign == 0) {
                sign = passed('=', '=');
            }
            if (sign == 0) {
                return true;
            }
            boolean good = isSum(open, nots);
            write(-sign);
            return good;
        }

        private boolean isSum(int open, int nots) {
            boolean good = isTerm(open, nots);
            for (int i = 0; i < TAPE && good; i++) {
                int sign = passed('+', '-');
                if (sign == 0) {
                    break;
                }
                good = isTerm(open, nots);
                write(-sign);
            }
            return good;
        }

        private boolean isTerm(int open, int nots) {
            boolean good = isPiece(open, nots);
            for (int i = 0; i < TAPE && good; i++) {
                int sign = passed('*', '/');
                if (sign == 0) {
                    break;
                }
                good = isPiece(open, nots);
                write(-sign);
            }
            return good;
        }

        private boolean isPiece(int open, int nots) {
            if (sort == DIGITS) {
                return isNumber();
            }
            if (sort == LETTERS) {
                return isName();
            }
            if (isAt('!') && nots < DEEPEST) {
                goNext();
                boolean good = isPiece(open, nots + 1);
                write(-'!');
                return good;
            }
            if (!isAt('(') || open >= DEEPEST) {
                return false;
            }
            goNext();
            if (!isOr(open + 1, nots) || !isAt(')')) {
                return false;
            }
            goNext();
            return true;
        }

        private boolean isNumber() {
            if (end - start > 4) {
                return false;
            }
            int number = 0;
            for (int i = start; i < end; i++) {
                number = 10 * number + bytes[i] - '0';
            }
            return takePiece(number);
        }

        private boolean isName() {
            String names = key == PUSH ? "wlc" : key == FEE ? "rd" : "cp";
            int which = end - start == 1 ? names.indexOf((char) bytes[start]) : -1;
            return which >= 0 && takePiece(NAMES + which);
        }

        private boolean takePiece(int step) {
            write(step);
            pieces++;
            goNext();
            return true;
        }
    }

    /** A SHEET's row; in a row of floats NONE stands for NO NUMBER, which no mark can give otherwise. */
    private static final class Row {
        final int[] places = new int[PLACES];
        int sort = MISSING;
        int many = 0;

        void begin(int newSort, int n) {
            sort = newSort;
            many = n;
            Arrays.fill(places, 0);
        }

        void beLike(Row other) {
            sort = other.sort;
            many = other.many;
            System.arraycopy(other.places, 0, places, 0, PLACES);
        }

        boolean hasPlace(int place) {
            return place >= 0 && place < many;
        }

        boolean hasPlaces(int place, int n) {
            return place >= 0 && place <= many && n >= 0 && n <= many - place;
        }

        boolean isNumber(int place) {
            return places[place] != NONE;
        }
    }

    /** A SLOT, with a HOUSE and a row of its own, so that what it holds stays as it was. */
    private static final class Slot {
        int thing = HOLDS_NOTHING;
        int number = 0;
        final House house = new House();
        final Row row = new Row();
    }
}
