/** For each promise of the document: ordinary inputs, the edges that it names, and wrong inputs. */
public final class PromisesTest {
    private static final int BAD = LeaningStreet.BAD, NO = LeaningStreet.NO, FULL = LeaningStreet.FULL, NONE = LeaningStreet.NONE,
        NOTHING = LeaningStreet.NOTHING, KIND = LeaningStreet.KIND, INDEX = LeaningStreet.INDEX, SIZE = LeaningStreet.SIZE;
    private static final int LOW = Integer.MIN_VALUE, HIGH = Integer.MAX_VALUE;
    private static int wrong = 0;

    private static void due(int promise, String what, int got, int want) {
        if (got != want) {
            wrong++;
            System.out.println("promise " + promise + ": " + what + " answered " + got + ", due is " + want);
        }
    }

    private static LeaningStreet streetOf(int[]... houses) {
        LeaningStreet x = new LeaningStreet();
        for (int[] h : houses) x.house(h[0], h[1], h[2], h[3]);
        return x;
    }

    /** The text, its length in bytes, on the tape; blanks fill the last twelve and are trimmed off. */
    private static void onTape(LeaningStreet x, String text) {
        int from = x.count(6);
        for (int i = 0; i < text.length(); i += 12) {
            int[] v = new int[3];
            for (int j = 0; j < 12; j++) v[j / 4] = v[j / 4] << 8 | (i + j < text.length() ? text.charAt(i + j) : ' ');
            x.feed(v[0], v[1], v[2]);
        }
        x.trim(from + text.length());
    }

    private static int textOf(LeaningStreet x, String text) {
        onTape(x, text);
        return x.text();
    }

    private static void aNewObject() {
        LeaningStreet x = new LeaningStreet();
        for (int what = 0; what <= 7; what++) due(1, "count " + what, x.count(what), what == 7 ? 1 : 0);
        for (int what = 0; what <= 4; what++) due(1, "street " + what, x.street(what), 0);
        for (int key = 0; key < 3; key++) due(1, "why " + key, x.why(key), NONE);
        for (int sheet = 0; sheet < 4; sheet++) due(1, "reads " + sheet, x.reads(sheet), NOTHING);
        for (int slot = 0; slot < 5; slot++) due(1, "item " + slot, x.item(slot, 0), NOTHING);
        due(1, "back", x.back(), NO);
        due(1, "fee", x.fee(), 0);
        due(1, "told", x.told(0, 0), BAD);
    }

    private static void house() {
        LeaningStreet x = new LeaningStreet();
        due(2, "least", x.house(0, 1, -50, 0), 0);
        due(2, "most", x.house(5, 99, 50, 99), 1);
        int[][] bad = {{-1, 1, 0, 0}, {6, 1, 0, 0}, {0, 0, 0, 0}, {0, 100, 0, 0}, {0, 1, -51, 0}, {0, 1, 51, 0}, {0, 1, 0, -1},
            {0, 1, 0, 100}, {LOW, 1, 0, 0}, {0, HIGH, 0, 0}, {0, 1, LOW, 0}, {0, 1, 0, HIGH}};
        for (int[] b : bad) due(2, "wrong", x.house(b[0], b[1], b[2], b[3]), BAD);
        due(2, "unchanged", x.count(0), 2);
        for (int k = 2; k < 9; k++) due(2, "house", x.house(k % 6, 10, 0, 5), k);
        due(2, "full", x.house(0, 1, 0, 0), FULL);
        due(2, "bad ahead of full", x.house(6, 1, 0, 0), BAD);
        due(2, "nine", x.count(0), 9);
        due(2, "crack at first", x.told(8, 4), 0);
        due(2, "prop at first", x.told(8, 5), 0);
        due(2, "stands at first", x.told(8, 6), 1);
    }

    private static void told() {
        LeaningStreet x = streetOf(new int[] {0, 10, 20, 30}, new int[] {0, 1, 0, 0}, new int[] {0, 30, -10, 5});
        x.set(0, 5, 2);
        x.set(0, 4, 9);
        int[] parts = {0, 10, 20, 30, 9, 2, 1};
        for (int what = 0; what < 7; what++) due(3, "part " + what, x.told(0, what), parts[what]);
        int[] pushes = {20, 10, 24, 5, 48, 0};
        int[] bears = {50, 55, 100, 55, 100, 999};
        int[] worth = {30, 37, 69, 74, 64, 6};
        for (int kind = 0; kind < 6; kind++) {
            x.turns(0, kind);
            due(3, "kind", x.told(0, 0), kind);
            due(3, "pushes of " + kind, x.told(0, 7), pushes[kind]);
            due(3, "bears of " + kind, x.told(0, 8), bears[kind]);
            due(3, "worth of " + kind, x.told(0, 10), worth[kind]);
        }
        x.turns(0, 3);
        x.set(0, 2, 9);
        due(3, "empty pushes 0 at least", x.told(0, 7), 0);
        x.turns(0, 0);
        x.set(0, 2, 20);
        x.snow(-7);
        due(3, "thrust in the middle", x.told(1, 9), 20 - 30 - 7);
        due(3, "thrust at the lesser end", x.told(0, 9), -7);
        due(3, "thrust at the greater end", x.told(2, 9), -7);
        x.fells(1);
        due(3, "fallen ones are passed over, up", x.told(0, 9), -37);
        due(3, "fallen ones are passed over, down", x.told(2, 9), 13);
        due(3, "thrust on a fallen one", x.told(1, 9), 0);
        due(3, "fallen", x.told(1, 6), 0);
        due(3, "lean 0 pushes none", x.set(0, 2, 0), 20);
        due(3, "no thrust by it", x.told(2, 9), -7);
        int[][] bad = {{-1, 0}, {3, 0}, {0, -1}, {0, 11}, {LOW, 0}, {HIGH, 0}, {0, LOW}, {0, HIGH}};
        for (int[] b : bad) due(3, "wrong", x.told(b[0], b[1]), BAD);
    }

    private static void as() {
        LeaningStreet x = streetOf(new int[] {0, 1, 0, 17});
        int[][] under = {{0}, {0, 1}, {0, 2}, {0, 1, 3}, {0, 2, 4}, {0, 5}};
        for (int kind = 0; kind < 6; kind++) {
            x.turns(0, kind);
            for (int as = 0; as < 6; as++) {
                int want = KIND;
                for (int u : under[kind]) if (u == as) want = 17;
                due(4, kind + " as " + as, x.as(0, as), want);
            }
        }
        due(4, "wrong house", x.as(1, 0), BAD);
        due(4, "wrong house", x.as(-1, 0), BAD);
        due(4, "wrong kind", x.as(0, 6), BAD);
        due(4, "wrong kind", x.as(0, -1), BAD);
    }

    private static void turns() {
        LeaningStreet x = streetOf(new int[] {2, 10, 20, 30});
        due(5, "was", x.turns(0, 5), 2);
        due(5, "was", x.turns(0, 5), 5);
        due(5, "is", x.told(0, 0), 5);
        due(5, "the rest stays", x.told(0, 3), 30);
        due(5, "wrong", x.turns(0, 6), BAD);
        due(5, "wrong", x.turns(0, -1), BAD);
        due(5, "wrong", x.turns(1, 0), BAD);
        due(5, "unchanged", x.told(0, 0), 5);
    }

    private static void set() {
        LeaningStreet x = streetOf(new int[] {0, 10, 20, 30});
        int[][] bounds = {{1, 1, 99, 10}, {2, -50, 50, 20}, {3, 0, 99, 30}, {4, 0, 999, 0}, {5, 0, 9, 0}};
        for (int[] b : bounds) {
            due(6, "least of " + b[0], x.set(0, b[0], b[1]), b[3]);
            due(6, "most of " + b[0], x.set(0, b[0], b[2]), b[1]);
            due(6, "below", x.set(0, b[0], b[1] - 1), BAD);
            due(6, "above", x.set(0, b[0], b[2] + 1), BAD);
            due(6, "unchanged", x.told(0, b[0]), b[2]);
        }
        due(6, "kind is not set", x.set(0, 0, 1), BAD);
        due(6, "standing is not set", x.set(0, 6, 1), BAD);
        due(6, "wrong house", x.set(1, 1, 1), BAD);
        due(6, "wrong house", x.set(-1, 1, 1), BAD);
        due(6, "far", x.set(0, HIGH, 1), BAD);
        due(6, "far", x.set(0, LOW, 1), BAD);
    }

    private static void fellsAndRaises() {
        LeaningStreet x = streetOf(new int[] {0, 10, 20, 30}, new int[] {1, 5, 5, 5});
        x.set(0, 5, 4);
        x.set(0, 4, 7);
        due(8, "it stands", x.raises(0), NO);
        due(7, "fells", x.fells(0), 1);
        due(7, "props are gone", x.told(0, 5), 0);
        due(7, "crack stays", x.told(0, 4), 7);
        due(7, "it is fallen", x.fells(0), NO);
        due(7, "the other", x.fells(1), 0);
        due(7, "wrong", x.fells(2), BAD);
        due(7, "wrong", x.fells(-1), BAD);
        x.set(0, 5, 3);
        due(8, "raises", x.raises(0), 1);
        due(8, "lean 0", x.told(0, 2), 0);
        due(8, "crack 0", x.told(0, 4), 0);
        due(8, "props stay", x.told(0, 5), 3);
        due(8, "wall stays", x.told(0, 3), 30);
        due(8, "both", x.raises(1), 2);
        due(8, "wrong", x.raises(2), BAD);
        due(8, "wrong", x.raises(-1), BAD);
    }

    private static void snow() {
        LeaningStreet x = new LeaningStreet();
        due(9, "was", x.snow(20), 0);
        due(9, "was", x.snow(-20), 20);
        due(9, "above", x.snow(21), BAD);
        due(9, "below", x.snow(-21), BAD);
        due(9, "is", x.count(3), -20);
    }

    private static void dealAndSeed() {
        LeaningStreet x = new LeaningStreet();
        due(11, "was", x.seed(7), 1);
        due(10, "none", x.deal(0), BAD);
        due(10, "ten", x.deal(10), BAD);
        due(10, "deal", x.deal(2), 2);
        int z = 7;
        int[] by = {6, 60, 41, 60};
        int[] more = {0, 1, -20, 0};
        for (int k = 0; k < 2; k++) {
            for (int what = 0; what < 4; what++) {
                z = z * 1103515245 + 12345;
                due(10, "drawn " + what, x.told(k, what), (z >>> 8) % by[what] + more[what]);
            }
        }
        due(11, "z", x.count(7), z);
        due(10, "as many as there is room for", x.deal(9), 7);
        for (int i = 0; i < 28; i++) z = z * 1103515245 + 12345;
        due(10, "no draws for others", x.count(7), z);
        due(10, "no room", x.deal(1), 0);
        due(10, "no draw at all", x.count(7), z);
        due(11, "any", x.seed(LOW), z);
        due(11, "any", x.seed(HIGH), LOW);
        due(11, "is", x.count(7), HIGH);
    }

    private static void days() {
        LeaningStreet x = streetOf(new int[] {0, 50, 20, 10}, new int[] {0, 1, 49, 30}, new int[] {0, 1, 0, 99});
        due(12, "none", x.days(0), BAD);
        due(12, "too many", x.days(101), BAD);
        due(12, "no day", x.count(2), 0);
        x.set(1, 5, 1);
        x.set(2, 5, 2);
        due(12, "a day", x.days(1), 0);
        due(12, "crack by what is above", x.told(1, 4), 60);
        due(12, "lean by the thrust", x.told(1, 2), 50);
        due(12, "rent", x.street(0), 3);
        due(12, "it falls, and what leans on it stands", x.days(1), 2);
        due(12, "held at 50", x.told(1, 2), 50);
        due(12, "fallen", x.street(1), 4);
        due(12, "crack", x.told(1, 4), 120);
        due(12, "the props of the fallen are gone ahead of the rent", x.street(0), 5);
        due(12, "day", x.count(2), 2);

        chains();
        crackEdges();
        theLastDay();
    }

    private static void chains() {
        LeaningStreet x = streetOf(new int[] {5, 1, 20, 0}, new int[] {5, 1, 20, 0}, new int[] {5, 1, 19, 0}, new int[] {5, 1, -20, 0},
            new int[] {5, 1, -20, 0}, new int[] {5, 1, 50, 0});
        x.set(2, 4, 100);
        due(12, "again and again, both ways", x.days(1), 5);
        due(12, "the church bears the last", x.street(1), 32);
        x = streetOf(new int[] {5, 1, 0, 0}, new int[] {5, 1, -20, 0}, new int[] {5, 1, -19, 0});
        x.set(0, 4, 100);
        due(12, "on the first", x.days(1), 2);
        due(12, "-19 stands", x.street(1), 4);
        x = streetOf(new int[] {5, 1, -20, 0}, new int[] {5, 1, 20, 0}, new int[] {5, 1, 0, 0}, new int[] {5, 1, 0, 0});
        x.fells(2);
        due(12, "one fallen long ago takes none with it", x.days(3), 0);
        x.set(3, 4, 100);
        due(12, "the next one is of those that stood", x.days(1), 2);
        due(12, "stands", x.street(1), 1);
    }

    private static void crackEdges() {
        LeaningStreet x = streetOf(new int[] {0, 1, 0, 5});
        x.snow(5);
        x.set(0, 4, 99);
        due(12, "it holds with just as much", x.days(100), 0);
        due(12, "crack 99 stands", x.street(2), 99);
        x.snow(-6);
        due(12, "crack 100 falls, by -1", x.days(1), 1);
        due(12, "lean 1 less", x.told(0, 2), -1);
        x = streetOf(new int[] {0, 1, 0, 0});
        x.snow(1);
        x.days(1);
        due(12, "thrust 1: lean 1 more", x.told(0, 2), 1);
        x.snow(-1);
        x.days(2);
        due(12, "thrust -1: lean 1 less", x.told(0, 2), -1);
        due(12, "by 1 a day", x.told(0, 4), 3);
        x.set(0, 2, -50);
        x.days(1);
        due(12, "-50 at least", x.told(0, 2), -50);
        x = streetOf(new int[] {0, 99, 50, 99}, new int[] {0, 1, 0, 0});
        x.set(1, 4, 900);
        due(12, "falls, and what leans on it", x.days(1), 2);
        due(12, "999 at most", x.told(1, 4), 999);
        due(12, "a fallen one cracks no more", x.days(1), 0);
    }

    private static void theLastDay() {
        LeaningStreet x = streetOf(new int[] {5, 1, 0, 0});
        x.set(0, 5, 1);
        for (int i = 0; i < 99; i++) x.days(100);
        x.days(98);
        due(12, "9998", x.count(2), 9998);
        due(12, "no more than up to 9999", x.days(100), 0);
        due(12, "9999", x.count(2), 9999);
        due(12, "rent of 9999 days", x.street(0), 9999);
        x.days(1);
        due(12, "no day more", x.street(0), 9999);
        due(14, "without the bound of the day", x.behind(100, 2), 10099);
        x.keep();
        due(38, "no days are told behind the last", x.check(30), 0);
        x.tell(1);
        due(38, "one too many", x.check(30), 1);
    }

    private static void street() {
        LeaningStreet x = streetOf(new int[] {0, 50, 20, 10}, new int[] {0, 10, 10, 99}, new int[] {0, 1, 0, 9}, new int[] {0, 1, 0, 9});
        x.set(1, 5, 2);
        x.set(3, 5, 1);
        x.set(0, 4, 7);
        x.set(3, 4, 8);
        x.fells(2);
        x.set(2, 4, 5);
        x.set(2, 5, 3);
        due(13, "rent", x.street(0), 0);
        due(13, "standing", x.street(1), 11);
        due(13, "cracks of all", x.street(2), 20);
        due(13, "props of all", x.street(3), 6);
        due(13, "all hold", x.street(4), 0);
        x.snow(9);
        due(13, "just as much holds", x.street(4), 0);
        x.set(3, 5, 0);
        due(13, "one does not hold", x.street(4), 8);
        x.days(2);
        due(13, "rent of props on fallen ones too", x.street(0), 10);
        due(13, "wrong", x.street(5), BAD);
        due(13, "wrong", x.street(-1), BAD);
    }

    private static void behind() {
        LeaningStreet x = streetOf(new int[] {0, 50, 20, 10}, new int[] {0, 1, 0, 70}, new int[] {0, 1, 20, 0});
        x.set(2, 5, 3);
        due(14, "now", x.behind(0, 0), 7);
        due(14, "cracks behind 3", x.behind(3, 1), 90);
        due(14, "lean behind 3", x.behind(3, 4), 3);
        due(14, "stands behind 4", x.behind(4, 0), 4);
        due(14, "rent behind 4", x.behind(4, 2), 12);
        due(14, "lean behind 100", x.behind(100, 5), 20);
        due(14, "only thought", x.street(2), 0);
        due(14, "no day", x.count(2), 0);
        int[][] bad = {{-1, 0}, {101, 0}, {0, -1}, {0, 6}, {LOW, 0}, {HIGH, 0}, {0, LOW}, {0, HIGH}};
        for (int[] b : bad) due(14, "wrong", x.behind(b[0], b[1]), BAD);
    }

    private static void lasts() {
        LeaningStreet x = streetOf(new int[] {0, 1, 0, 0});
        due(15, "no one falls", x.lasts(), NONE);
        x.snow(1);
        due(15, "by 1 a day", x.lasts(), 100);
        x.set(0, 4, 99);
        due(15, "tomorrow", x.lasts(), 1);
        due(15, "only thought", x.told(0, 4), 99);
        x.fells(0);
        due(15, "none stands", x.lasts(), NONE);
        due(15, "none at all", new LeaningStreet().lasts(), NONE);
        x = streetOf(new int[] {5, 10, 10, 0}, new int[] {0, 1, 0, 19});
        x.snow(20);
        due(15, "later, by 1 a day", x.lasts(), 100);
        x.set(1, 3, 20);
        due(15, "it holds", x.lasts(), NONE);
    }

    /**
     * One house cracks by 1 a day at a time, and each sets the next one going and is stopped by it: 5, then 4,
     * then (by 3) 2, then (by 1) 0; so the first one falls on day 313, far behind the 300 that are looked at.
     */
    private static void lastsLongest() {
        LeaningStreet x = streetOf(new int[] {3, 1, 50, 24}, new int[] {0, 30, 1, 84}, new int[] {0, 51, -50, 49},
            new int[] {0, 10, -50, 19}, new int[] {0, 10, 1, 84}, new int[] {0, 51, -50, 29});
        x.snow(20);
        due(25, "the law", textOf(x, "push (c<97|c>98)*(w+(c>0)*14+(l>19)*6+(w>50&c>46)*40)"), 0);
        due(15, "313", x.lasts(), NONE);
        due(12, "12 days", x.days(12), 0);
        due(15, "301", x.lasts(), NONE);
        due(12, "13 days", x.days(1), 0);
        due(15, "300", x.lasts(), 300);
        due(12, "14 days", x.days(1), 0);
        due(15, "299", x.lasts(), 299);
        for (int i = 0; i < 2; i++) due(12, "no one falls", x.days(100), 0);
        due(12, "nor yet", x.days(98), 0);
        due(15, "tomorrow", x.lasts(), 1);
        due(12, "the first one, and what leans on it", x.days(1), 2);
        due(13, "they are 0 and 1", x.street(1), 60);
    }

    private static void taken() {
        LeaningStreet x = streetOf(new int[] {0, 53, 19, 99}, new int[] {0, 10, 0, 99}, new int[] {0, 1, 0, 50}, new int[] {0, 1, 0, 0});
        due(16, "the one behind it falls by the push", x.taken(1, 2), 4);
        due(16, "not yet", x.taken(1, 1), 0);
        due(16, "itself left out", x.taken(2, 5), 0);
        due(16, "none", x.taken(3, 60), 0);
        due(16, "only thought", x.street(1), 15);
        x.set(2, 4, 100);
        due(16, "those that fall as it is are left out", x.taken(1, 1), 0);
        x.fells(1);
        due(16, "it is fallen", x.taken(1, 2), NO);
        due(16, "wrong ahead of no", x.taken(1, 61), BAD);
        int[][] bad = {{-1, 1}, {4, 1}, {0, 0}, {0, 61}, {HIGH, 1}, {0, LOW}};
        for (int[] b : bad) due(16, "wrong", x.taken(b[0], b[1]), BAD);
    }

    private static void propped() {
        LeaningStreet x = streetOf(new int[] {0, 1, 0, 99}, new int[] {0, 50, 20, 99}, new int[] {0, 1, 0, 70});
        due(17, "none are needed for 3", x.propped(3), 0);
        due(17, "one more on 2 stays below 100 for 4", x.propped(4), 21);
        due(17, "two for 9", x.propped(9), 22);
        due(17, "three for 10", x.propped(10), 23);
        due(17, "three for 40", x.propped(40), 23);
        x.set(2, 5, 1);
        x.set(2, 3, 60);
        due(17, "as many more", x.propped(40), 23);
        due(17, "only thought", x.told(2, 5), 1);
        x.set(2, 5, 8);
        x.set(2, 3, 10);
        due(17, "nine at most on it", x.propped(40), 21);
        x.set(2, 3, 0);
        x.set(2, 5, 7);
        due(17, "two more, nine on it, not enough", x.propped(40), NONE);
        due(17, "no street", new LeaningStreet().propped(1), 0);
        due(17, "wrong", x.propped(0), BAD);
        due(17, "wrong", x.propped(41), BAD);
        x = streetOf(new int[] {0, 50, 20, 99}, new int[] {0, 30, 20, 95}, new int[] {0, 1, 0, 50});
        x.set(2, 4, 90);
        x.set(1, 4, 90);
        due(17, "no one house alone", x.propped(2), NONE);
        x.set(1, 4, 0);
        due(17, "the house with the fewest", x.propped(2), 21);
        x = streetOf(new int[] {0, 1, 0, 10}, new int[] {0, 50, -20, 99});
        due(17, "nine more, on the first", x.propped(40), 9);
        x.set(0, 5, 1);
        x.set(0, 3, 0);
        due(17, "ten would be", x.propped(40), NONE);
        x = streetOf(new int[] {0, 1, 0, 0}, new int[] {5, 1, 0, 0}, new int[] {0, 1, 0, 0});
        x.snow(10);
        x.set(2, 4, 99);
        due(17, "of the second that falls later, none alone", x.propped(10), NONE);
        due(17, "while the first stands yet", x.propped(9), 21);
    }

    private static void wall() {
        LeaningStreet x = streetOf(new int[] {0, 1, 0, 9}, new int[] {0, 50, 20, 99}, new int[] {5, 1, 20, 70}, new int[] {0, 1, 0, 9});
        due(18, "none falls: the least", x.wall(60, 0), 0);
        due(18, "none", x.wall(60, 1), 0);
        x.turns(2, 0);
        x.set(2, 3, 99);
        x.set(2, 4, 50);
        due(18, "it falls by its wall", x.wall(1, 0), 2);
        due(18, "it, and what leans on it", x.wall(1, 1), 2);
        x.fells(0);
        due(18, "how many are fallen then", x.wall(1, 1), 3);
        x.snow(5);
        x.set(3, 4, 99);
        due(18, "most with the last one", x.wall(1, 0), 3);
        due(18, "all", x.wall(1, 1), 4);
        due(18, "only thought", x.told(2, 3), 99);
        due(18, "no houses", new LeaningStreet().wall(1, 1), NONE);
        int[][] bad = {{0, 0}, {61, 0}, {1, -1}, {1, 2}, {LOW, 0}, {1, HIGH}};
        for (int[] b : bad) due(18, "wrong", x.wall(b[0], b[1]), BAD);
        due(18, "wrong ahead of none", new LeaningStreet().wall(61, 0), BAD);
    }

    private static void snows() {
        LeaningStreet x = streetOf(new int[] {0, 1, 0, 7});
        due(19, "50 days", x.snows(50), 8);
        due(19, "10 days", x.snows(10), 16);
        due(19, "one day", x.snows(1), 20);
        x.snow(-20);
        due(19, "snow as it is does not count", x.snows(60), 8);
        due(19, "only thought", x.count(3), -20);
        x.set(0, 3, 0);
        x.set(0, 4, 99);
        due(19, "none at all", x.snows(60), 0);
        x.set(0, 4, 100);
        due(19, "none of them", x.snows(1), NONE);
        due(19, "no street", new LeaningStreet().snows(60), 20);
        due(19, "wrong", x.snows(0), BAD);
        due(19, "wrong", x.snows(61), BAD);
    }

    private static void began() {
        LeaningStreet x = streetOf(new int[] {0, 20, 10, 99}, new int[] {0, 20, 10, 99}, new int[] {0, 1, 0, 99});
        x.sheet(0, 1, 4);
        x.mark(0, 2, 40);
        due(20, "20 a day on 2, for 2", x.began(0, 2, 0), 2);
        due(20, "no difference", x.began(0, 2, 1), 0);
        x.mark(0, 1, 40);
        due(20, "of several the least", x.began(0, 2, 0), 1);
        due(20, "differences", x.began(0, 2, 1), 40);
        x.mark(0, 1, -40);
        due(20, "signs left out", x.began(0, 2, 1), 40);
        due(20, "house", x.began(0, 2, 0), 2);
        x.mark(0, 1, NONE);
        due(20, "of numbers alone", x.began(0, 2, 1), 0);
        x.mark(0, 3, 500);
        due(20, "places beyond all houses: held against 0", x.began(0, 2, 1), 500);
        x.mark(0, 3, NONE);
        due(20, "places beyond all houses: numbers alone", x.began(0, 2, 1), 0);
        due(20, "now", x.began(0, 0, 1), 40);
        due(20, "now: the least", x.began(0, 0, 0), 0);
        x.set(0, 4, 50);
        due(20, "the first place counts", x.began(0, 2, 1), 50);
        x.set(0, 4, 0);
        due(20, "only thought", x.told(2, 3), 99);
        x.sheet(1, 0, 0);
        due(20, "no places", x.began(1, 60, 1), 0);
        due(20, "missing", x.began(2, 0, 0), NOTHING);
        int[][] bad = {{-1, 0, 0}, {4, 0, 0}, {0, -1, 0}, {0, 61, 0}, {0, 0, -1}, {0, 0, 2}};
        for (int[] b : bad) due(20, "wrong", x.began(b[0], b[1], b[2]), BAD);
        due(20, "wrong ahead of missing", x.began(2, 61, 0), BAD);
        LeaningStreet none = new LeaningStreet();
        due(20, "missing ahead of none", none.began(0, 0, 0), NOTHING);
        none.sheet(0, 0, 1);
        due(20, "no houses", none.began(0, 0, 1), NONE);
    }

    private static void beganBeyondHouses() {
        LeaningStreet x = streetOf(new int[] {0, 20, 10, 99}, new int[] {0, 1, 0, 99});
        x.sheet(0, 1, 24);
        x.mark(0, 1, 40);
        int[] numbers = {500, -500, 99999, -99999, 0};
        for (int v : numbers) {
            x.mark(0, 2, v);
            due(20, "beyond all houses: the number without its sign", x.began(0, 2, 1), Math.abs(v));
            due(20, "beyond all houses: the house is the same", x.began(0, 2, 0), 1);
        }
        for (int place = 2; place < 24; place++) x.mark(0, place, place % 2 == 0 ? 99999 : -99999);
        due(20, "beyond all houses: each place", x.began(0, 2, 1), 22 * 99999);
        for (int place = 2; place < 23; place++) x.mark(0, place, NONE);
        due(20, "beyond all houses: numbers alone", x.began(0, 2, 1), 99999);
        x.sheet(1, 0, 24);
        for (int place = 2; place < 24; place++) x.mark(1, place, -32768);
        due(20, "beyond all houses: shorts", x.began(1, 0, 1), 22 * 32768);
        x.house(5, 1, 0, 0);
        x.set(2, 4, 10);
        due(20, "one house more: its crack, not 0", x.began(1, 0, 1), 22 * 32768 + 10);
        x.fells(2);
        due(20, "one that is fallen is a house", x.began(1, 0, 1), 22 * 32768 + 10);
    }

    private static void feeAndFine() {
        LeaningStreet x = streetOf(new int[] {0, 1, 0, 0});
        x.set(0, 5, 3);
        x.set(0, 4, 42);
        x.days(5);
        due(21, "without a text", x.fee(), 15);
        due(22, "without a text", x.fine(0), 42);
        due(25, "fee", textOf(x, "fee r * 10 - d"), 0);
        due(21, "by a text", x.fee(), 145);
        due(25, "fine", textOf(x, "fine c/p+p"), 1);
        due(22, "by a text", x.fine(0), 17);
        textOf(x, "fee 0 - d");
        due(21, "the last one counts; below 0", x.fee(), -5);
        due(22, "wrong", x.fine(1), BAD);
        due(22, "wrong", x.fine(-1), BAD);
        x.fells(0);
        textOf(x, "fine 7/p");
        due(22, "/ is 0 by 0, of a fallen one", x.fine(0), 0);
        textOf(x, "fee 9999*9999*9999");
        due(21, "ints wrap", x.fee(), 9999 * 9999 * 9999);
    }

    private static void feedAndTrim() {
        LeaningStreet x = new LeaningStreet();
        for (int i = 1; i <= 8; i++) due(23, "feed", x.feed(0x20202020, 0x20202020, 0x20202020), 12 * i);
        due(23, "more than 96", x.feed(0, 0, 0), FULL);
        due(23, "unchanged", x.count(6), 96);
        due(24, "97", x.trim(97), BAD);
        due(24, "below 0", x.trim(-1), BAD);
        due(24, "96", x.trim(96), 96);
        due(24, "85", x.trim(85), 85);
        due(23, "97 would be", x.feed(0, 0, 0), FULL);
        due(24, "84", x.trim(84), 84);
        due(24, "is no longer there", x.trim(85), BAD);
        due(23, "just 96", x.feed(0, 0, 0), 96);
        due(24, "none", x.trim(0), 0);
        due(23, "the highest first", x.feed(0x66656520, 0x31323334, 0x20202020), 12);
        due(25, "is", x.text(), 0);
        due(21, "1234", x.fee(), 1234);
        due(25, "it is used up", x.count(6), 0);
    }

    private static void faults() {
        String open = "((((((((", shut = "))))))))", nots = "!!!!!!!!";
        Object[][] all = {
            {"", 0}, {"   ", 3}, {"push", 4}, {"push  ", 6}, {"pusher 1", 0}, {"  fie 1", 2}, {"Push 1", 0}, {"5", 0}, {"push5", 4},
            {"pushw", 0}, {"push 5w", 6}, {"push w5", 6}, {"push w 5", 7}, {"push ww", 5}, {"push r", 5}, {"fee w", 4}, {"fine l", 5},
            {"fine r", 5}, {"fee c", 4}, {"push 12345", 5}, {"push 1+12345", 7}, {"push 1+", 7}, {"push 1 + ", 9}, {"push +1", 5},
            {"push 1<2<3", 8}, {"push 1<2=3", 8}, {"push (1<2", 9}, {"push 1)", 6}, {"push ()", 6}, {"push 1!", 6}, {"push !", 6},
            {"push 1 !2", 7}, {"push 1(2)", 6}, {"push (1)2", 8}, {"push 1&&2", 7}, {"push 1#", 6}, {"push \u00e9", 5}, {"push \u00001", 5},
            {"push (" + open + "1" + shut + ")", 13}, {"push !" + nots + "1", 13}, {"push " + nots + "(!1)", 14}, {"push 1-", 7}, {"push W", 5},
            {"push push 1", 5}, {"fee\t1", 3}, {"push z1", 5}, {"push 1z", 6}, {"push 9z9", 6}, {"push 1{", 6}, {"push 1`", 6}, {"push 1:", 6},
            {"push 1a", 6}, {"pushz 1", 0}, {"pusha 1", 0}, {"push{1", 4}, {"push 9:", 6}, {"push 0 0", 7}};
        for (Object[] a : all) {
            LeaningStreet x = new LeaningStreet();
            due(25, "fault of '" + a[0] + "'", textOf(x, (String) a[0]), -100 - (Integer) a[1]);
            due(25, "it is used up", x.count(6), 0);
            due(25, "no text", x.count(4), 0);
        }
        String[] good = {"push(1)", "push!w", "  push   w  ", "fine c", "fee r&d|0", "push " + open + "w" + shut, "push " + nots + "w",
            "push (1<2)<3", "push 1<2&3>4", "push " + nots + open + "c" + shut, "push 0000", "push " + nots + "w+" + nots + "w", "fee(r)/(d)"};
        for (String g : good) due(25, "'" + g + "'", textOf(new LeaningStreet(), g), 0);
    }

    private static void values() {
        Object[][] all = {{"1+2*3", 7}, {"(1+2)*3", 9}, {"7-2-1", 4}, {"100/7/2", 7}, {"8/4*2", 4}, {"2*9/4", 4}, {"5/0", 0}, {"(0-7)/2", -3},
            {"1<2", 1}, {"2<1", 0}, {"2=2", 1}, {"2>1", 1}, {"1>1", 0}, {"1<1", 0}, {"5&7", 1}, {"5&0", 0}, {"0|7", 1}, {"0|0", 0}, {"!5", 0},
            {"!0", 1}, {"!!7", 1}, {"!0+5", 6}, {"1|0&0", 1}, {"(1|0)&0", 0}, {"1+1=2", 1}, {"1=1+1", 0}, {"3-5<0", 1}, {"0-9999", -9999},
            {"!(1>2)*4", 4}, {"2>1&3>2|0", 1}, {"1=1&2", 1}, {"7", 7}, {"(7)", 7}};
        for (Object[] a : all) {
            LeaningStreet x = new LeaningStreet();
            textOf(x, "fee " + a[0]);
            due(25, "value of " + a[0], x.fee(), (Integer) a[1]);
        }
        LeaningStreet x = new LeaningStreet();
        textOf(x, "fee 9999*9999*22*(0-1)");
        due(25, "wrapped", x.fee(), -(9999 * 9999 * 22));
        textOf(x, "fee ((0-8192)*4096*64)/(0-1)");
        due(25, "the least by -1", x.fee(), Integer.MIN_VALUE);
    }

    private static void pushTexts() {
        LeaningStreet x = streetOf(new int[] {0, 10, -20, 0}, new int[] {2, 10, -20, 0});
        x.set(0, 4, 3);
        textOf(x, "push w*100+l*10+c");
        due(25, "held within 999", x.told(0, 7), 999);
        textOf(x, "push w+l+c");
        due(25, "lean without its sign", x.told(0, 7), 33);
        due(25, "thrust by the text", x.told(0, 9), -34);
        textOf(x, "push c-w");
        due(25, "0 at least", x.told(0, 7), 0);
        due(25, "brick: and 4", x.told(1, 7), 4);
        textOf(x, "push 7");
        x.set(1, 2, 0);
        due(3, "lean 0 pushes to no side, down", x.told(0, 9), 0);
        x.set(1, 2, 1);
        due(3, "lean 1 pushes not down", x.told(0, 9), 0);
        x.set(1, 2, -1);
        due(3, "lean -1 does", x.told(0, 9), -11);
        x.set(0, 2, 0);
        due(3, "lean 0 pushes to no side, up", x.told(1, 9), 0);
        x.set(0, 2, 1);
        due(3, "lean 1 does", x.told(1, 9), 7);
        x.set(0, 2, -20);
        x.set(1, 2, -20);
        due(13, "the first does not hold", x.street(4), 1);
        textOf(x, "push c");
        x.set(1, 4, 1);
        x.days(1);
        due(12, "a day by the text", x.told(0, 4), 8);
        due(14, "thought by the text", x.behind(2, 1), 19);
    }

    private static void texts() {
        LeaningStreet x = new LeaningStreet();
        due(27, "none", x.why(0), NONE);
        for (int i = 0; i < 14; i++) due(25, "text", textOf(x, i % 2 == 0 ? "push w+" + i + "*(l-3)" : "fine c"), i);
        due(25, "full", textOf(x, "fee 1"), FULL);
        due(25, "used up by full", x.count(6), 0);
        due(25, "fault ahead of full", textOf(x, "fee 1 1"), -106);
        due(26, "push", x.textTold(12, 0), 0);
        due(26, "fine", x.textTold(13, 0), 2);
        due(26, "numbers and names", x.textTold(12, 1), 4);
        due(26, "one", x.textTold(13, 1), 1);
        due(27, "push", x.why(0), 12);
        due(27, "fee", x.why(1), NONE);
        due(27, "fine", x.why(2), 13);
        due(27, "wrong", x.why(3), BAD);
        due(27, "wrong", x.why(-1), BAD);
        int[][] bad = {{-1, 0}, {14, 0}, {0, -1}, {0, 2}, {HIGH, 0}};
        for (int[] b : bad) due(26, "wrong", x.textTold(b[0], b[1]), BAD);
        LeaningStreet y = new LeaningStreet();
        textOf(y, "fee d");
        due(26, "fee", y.textTold(0, 0), 1);
    }

    private static void sheet() {
        LeaningStreet x = new LeaningStreet();
        due(28, "shorts", x.sheet(0, 0, 24), 24);
        due(28, "floats", x.sheet(3, 1, 0), 0);
        due(28, "25", x.sheet(0, 0, 25), BAD);
        due(28, "below 0", x.sheet(0, 0, -1), SIZE);
        due(28, "below 0", x.sheet(0, 1, LOW), SIZE);
        due(28, "sheet", x.sheet(4, 0, -1), BAD);
        due(28, "sheet", x.sheet(-1, 0, 1), BAD);
        due(28, "sort", x.sheet(0, 2, -1), BAD);
        due(28, "sort", x.sheet(0, -2, 1), BAD);
        due(28, "unchanged", x.mark(0, 23, 1), 1);
        due(28, "anew", x.sheet(0, 0, 24), 24);
        x.lay(0, 2, 0);
        due(28, "all 0", x.item(0, 23), 0);
        due(28, "missing, n any", x.sheet(0, -1, 99), 0);
        due(28, "missing, n any", x.sheet(0, -1, -99), 0);
        due(28, "is missing", x.mark(0, 0, 0), NOTHING);
    }

    private static void mark() {
        LeaningStreet x = new LeaningStreet();
        x.sheet(0, 0, 2);
        x.sheet(1, 1, 2);
        int[][] shorts = {{5, 5}, {-5, -5}, {32767, 32767}, {32768, -32768}, {65535, -1}, {65536, 0}, {LOW, 0}, {HIGH, -1}};
        for (int[] s : shorts) {
            due(29, "short " + s[0], x.mark(0, 1, s[0]), 1);
            x.lay(0, 2, 0);
            due(29, "short " + s[0], x.item(0, 1), s[1]);
        }
        due(29, "no number in shorts", x.mark(0, 0, NONE), KIND);
        for (int v : new int[] {-99999, 99999, 0, 70000}) {
            due(29, "float " + v, x.mark(1, 0, v), 1);
            x.lay(0, 2, 1);
            due(29, "float " + v, x.item(0, 0), v);
        }
        due(29, "too great", x.mark(1, 0, 100000), BAD);
        due(29, "too little", x.mark(1, 0, -100000), BAD);
        due(29, "no number", x.mark(1, 0, NONE), 1);
        due(29, "sheet", x.mark(4, 0, 0), BAD);
        due(29, "sheet", x.mark(-1, 0, 0), BAD);
        due(29, "missing", x.mark(2, 9, NONE), NOTHING);
        due(29, "no place", x.mark(0, 2, NONE), INDEX);
        due(29, "no place", x.mark(1, -1, 100000), INDEX);
        due(29, "no place", x.mark(1, HIGH, 0), INDEX);
    }

    private static void pour() {
        LeaningStreet x = streetOf(new int[] {0, 1, 0, 5}, new int[] {0, 1, 0, 6}, new int[] {0, 1, 0, 7}, new int[] {0, 1, 0, 8}, new int[] {0, 1, 0, 9});
        x.sheet(0, 1, 4);
        x.mark(0, 0, 5);
        x.mark(0, 1, 100);
        x.mark(0, 2, NONE);
        x.mark(0, 3, -1);
        x.fells(3);
        due(30, "how many are otherwise", x.pour(0), 2);
        int[] walls = {5, 99, 7, 0, 9};
        for (int k = 0; k < 5; k++) due(30, "wall " + k, x.told(k, 3), walls[k]);
        due(30, "again", x.pour(0), 0);
        x.sheet(0, 0, 24);
        due(30, "more places than houses", x.pour(0), 4);
        due(30, "sheet", x.pour(4), BAD);
        due(30, "sheet", x.pour(-1), BAD);
        due(30, "missing", x.pour(1), NOTHING);
    }

    private static void reads() {
        LeaningStreet x = streetOf(new int[] {0, 1, 5, 0}, new int[] {0, 1, -6, 0});
        x.sheet(0, 1, 3);
        due(31, "at once", x.reads(0), 0);
        x.mark(0, 0, 5);
        due(31, "the second", x.reads(0), 1);
        x.mark(0, 1, NONE);
        due(31, "of numbers alone; no house", x.reads(0), 2);
        x.mark(0, 2, NONE);
        due(31, "none", x.reads(0), NONE);
        x.mark(0, 1, -6);
        due(31, "none", x.reads(0), NONE);
        x.sheet(1, 0, 0);
        due(31, "no places", x.reads(1), NONE);
        due(31, "missing", x.reads(2), NOTHING);
        due(31, "sheet", x.reads(4), BAD);
        due(31, "sheet", x.reads(-1), BAD);
    }

    private static void copy() {
        LeaningStreet x = new LeaningStreet();
        x.sheet(0, 0, 5);
        x.sheet(1, 0, 3);
        x.sheet(2, 1, 5);
        for (int i = 0; i < 5; i++) x.mark(0, i, 10 + i);
        due(32, "on itself", x.copy(0, 0, 0, 1, 4), 4);
        x.lay(0, 2, 0);
        int[] places = {10, 10, 11, 12, 13};
        for (int i = 0; i < 5; i++) due(32, "as they were", x.item(0, i), places[i]);
        due(32, "to another", x.copy(0, 3, 1, 1, 2), 2);
        x.lay(0, 2, 1);
        due(32, "first", x.item(0, 0), 0);
        due(32, "second", x.item(0, 1), 12);
        due(32, "third", x.item(0, 2), 13);
        due(32, "none, at the end", x.copy(0, 5, 1, 3, 0), 0);
        due(32, "of two sorts", x.copy(0, 9, 2, 0, 1), KIND);
        due(32, "missing", x.copy(3, 0, 0, 0, 1), NOTHING);
        due(32, "missing", x.copy(0, 0, 3, 0, 1), NOTHING);
        due(32, "sheet", x.copy(4, 0, 3, 0, 1), BAD);
        due(32, "sheet", x.copy(3, 0, -1, 0, 1), BAD);
        int[][] no = {{0, -1, 1, 0, 1}, {0, 0, 1, -1, 1}, {0, 5, 1, 0, 1}, {0, 0, 1, 3, 1}, {0, 0, 1, 0, 4}, {0, 3, 1, 0, 3}, {0, 0, 1, 0, -1},
            {0, HIGH, 1, 0, 1}, {0, 1, 1, 0, HIGH}, {0, 0, 1, HIGH, HIGH}, {0, LOW, 1, 0, LOW}};
        for (int[] n : no) due(32, "no such place", x.copy(n[0], n[1], n[2], n[3], n[4]), INDEX);
        x.mark(2, 0, NONE);
        due(32, "no number too", x.copy(2, 0, 2, 4, 1), 1);
        x.lay(0, 2, 2);
        due(32, "no number too", x.item(0, 4), KIND);
    }

    private static void layAndAsk() {
        LeaningStreet x = streetOf(new int[] {3, 1, 0, 5});
        x.sheet(1, 1, 2);
        due(33, "held nothing", x.lay(0, 1, 0), 0);
        due(33, "held a house", x.lay(0, 2, 1), 1);
        due(33, "held a sheet", x.lay(0, 3, LOW), 2);
        due(33, "held a number", x.lay(0, 0, HIGH), 3);
        due(33, "held nothing", x.lay(0, 0, -1), 0);
        int[][] bad = {{-1, 0, 0}, {5, 0, 0}, {0, -1, 0}, {0, 4, 0}, {0, 1, 1}, {0, 1, -1}, {0, 2, 4}, {0, 2, -1}};
        for (int[] b : bad) due(33, "wrong", x.lay(b[0], b[1], b[2]), BAD);
        due(33, "missing", x.lay(0, 2, 0), NOTHING);
        due(33, "unchanged", x.lay(4, 1, 0), 0);
        x.set(0, 3, 50);
        x.turns(0, 5);
        due(34, "as it was then", x.ask(4, 3), 24);
        due(34, "its own worth, as a house", x.ask(4, 0), 24);
        due(34, "and as timber", x.ask(4, 1), 24);
        due(34, "not of brick", x.ask(4, 2), KIND);
        due(34, "slot", x.ask(5, 0), BAD);
        due(34, "slot", x.ask(-1, 0), BAD);
        due(34, "kind ahead of nothing", x.ask(0, 6), BAD);
        due(34, "kind", x.ask(4, -1), BAD);
        due(34, "nothing", x.ask(0, 0), NOTHING);
        x.lay(0, 3, 1);
        due(34, "no house", x.ask(0, 0), KIND);
        x.lay(1, 2, 1);
        due(34, "no house", x.ask(1, 0), KIND);
    }

    private static void itemAndRest() {
        LeaningStreet x = streetOf(new int[] {0, 1, 0, 5});
        x.sheet(0, 1, 3);
        x.mark(0, 0, 7);
        x.mark(0, 1, NONE);
        x.lay(0, 2, 0);
        x.mark(0, 0, 8);
        x.sheet(0, -1, 0);
        due(35, "as it was then", x.item(0, 0), 7);
        due(35, "no number", x.item(0, 1), KIND);
        due(35, "0", x.item(0, 2), 0);
        due(35, "no place", x.item(0, 3), INDEX);
        due(35, "no place", x.item(0, -1), INDEX);
        due(35, "slot", x.item(5, 0), BAD);
        due(35, "slot", x.item(-1, 0), BAD);
        due(35, "nothing", x.item(1, 99), NOTHING);
        x.lay(1, 1, 0);
        due(35, "no sheet", x.item(1, 99), KIND);
        due(36, "no number", x.rest(0, 0), KIND);
        due(36, "no number", x.rest(1, 1), KIND);
        int[][] rests = {{17, 5, 2}, {-17, 5, -2}, {17, -5, 2}, {LOW, -1, 0}, {LOW, HIGH, -1}, {0, 3, 0}};
        for (int[] r : rests) {
            x.lay(2, 3, r[0]);
            due(36, r[0] + " by " + r[1], x.rest(2, r[1]), r[2]);
        }
        due(36, "by 0", x.rest(2, 0), NO);
        due(36, "nothing ahead of by 0", x.rest(3, 0), NOTHING);
        due(36, "slot", x.rest(5, 0), BAD);
        due(36, "slot", x.rest(-1, 1), BAD);
    }

    private static void tellAndCheck() {
        LeaningStreet x = streetOf(new int[] {0, 1, 0, 0}, new int[] {5, 1, 0, 0});
        for (int i = 1; i <= 60; i++) due(37, "tell", x.tell(i), i);
        due(37, "60 wait", x.tell(1), FULL);
        due(37, "60 wait", x.count(5), 60);
        due(38, "bad ahead of no image", x.check(31), BAD);
        due(38, "none wait then", x.count(5), 0);
        x.tell(1);
        due(38, "no image", x.check(30), NO);
        due(38, "none wait then", x.count(5), 0);
        x.snow(20);
        x.keep();
        x.snow(0);
        x.set(0, 3, 99);
        int[] due = {2, 20, 2, 40, 2, 60, 2, 80, 1, 100, 1, 100};
        for (int days = 1; days <= 6; days++) {
            for (int i = 0; i < 2 * days; i++) x.tell(due[i]);
            due(38, "by the image, " + days, x.check(days), 0);
        }
        for (int at = 0; at < 12; at++) {
            for (int i = 0; i < 12; i++) x.tell(i == at ? 3 : due[i]);
            due(38, "wrong at " + at, x.check(6), 1 + at);
            for (int i = 0; i < at; i++) x.tell(due[i]);
            due(38, "missing from " + at, x.check(6), 1 + at);
        }
        for (int i = 0; i < 12; i++) x.tell(due[i]);
        due(38, "one too many", x.check(5), 11);
        due(38, "none", x.check(1), 1);
        due(38, "wrong", x.check(0), BAD);
        due(38, "only thought", x.street(2), 0);
        due(38, "only thought", x.count(2), 0);
        for (int i = 0; i < 60; i++) x.tell(i % 2 == 0 ? i < 8 ? 2 : 1 : Math.min(100, 10 * (i + 1)));
        due(38, "30 days", x.check(30), 0);
    }

    private static void checkByTheTextsOfTheImage() {
        LeaningStreet x = streetOf(new int[] {0, 10, 10, 0}, new int[] {0, 1, 0, 0});
        textOf(x, "push 7");
        x.keep();
        textOf(x, "push 9");
        x.tell(2);
        x.tell(7);
        due(38, "by the texts of the image", x.check(1), 0);
    }

    private static void keepAndBack() {
        LeaningStreet x = streetOf(new int[] {1, 10, 5, 3}, new int[] {0, 2, 0, 0});
        due(40, "no image", x.back(), NO);
        x.set(0, 4, 6);
        x.set(0, 5, 2);
        x.fells(1);
        x.snow(4);
        x.days(3);
        x.seed(99);
        textOf(x, "fee r+1");
        due(39, "keep", x.keep(), 2);
        for (int again = 0; again < 2; again++) {
            x.deal(4);
            x.raises(1);
            x.turns(0, 4);
            x.set(0, 1, 77);
            x.set(0, 3, 88);
            x.snow(-4);
            x.days(50);
            x.seed(5);
            textOf(x, "fee 5");
            textOf(x, "push 5");
            x.sheet(0, 0, 1);
            x.lay(0, 3, 5);
            x.tell(1);
            x.feed(1, 2, 3);
            due(40, "back", x.back(), 2);
            int[] parts = {1, 10, 5, 3, 6, 2, 1};
            for (int what = 0; what < 7; what++) due(40, "part " + what, x.told(0, what), parts[what]);
            due(40, "fallen", x.told(1, 6), 0);
            int[] counts = {2, 1, 3, 4, 1, 1 + again, 12, 99};
            for (int what = 0; what < 8; what++) due(40, "count " + what, x.count(what), counts[what]);
            due(40, "rent", x.street(0), 6);
            due(40, "the text that counts", x.why(1), 0);
            due(40, "no text of push", x.why(0), NONE);
            due(40, "fee", x.fee(), 7);
            due(40, "sheets are not kept", x.reads(0), 0);
            due(40, "slots are not kept", x.rest(0, 10), 5);
            x.trim(0);
        }
        due(40, "texts go on from there", textOf(x, "push 8"), 1);
        due(40, "push", x.told(0, 7), 4);
        due(39, "a newer image", x.keep(), 2);
        x.fells(0);
        due(40, "back", x.back(), 2);
        due(40, "stands", x.count(1), 1);
        due(40, "the newer text", x.why(0), 1);
        due(39, "of none", new LeaningStreet().keep(), 0);
    }

    private static void count() {
        LeaningStreet x = streetOf(new int[] {0, 1, 0, 9}, new int[] {0, 1, 0, 9});
        x.fells(0);
        x.days(2);
        x.snow(3);
        textOf(x, "fee 1");
        x.tell(5);
        x.feed(0, 0, 0);
        x.seed(-8);
        int[] counts = {2, 1, 2, 3, 1, 1, 12, -8};
        for (int what = 0; what < 8; what++) due(41, "count " + what, x.count(what), counts[what]);
        due(41, "wrong", x.count(8), BAD);
        due(41, "wrong", x.count(-1), BAD);
    }

    public static void main(String[] args) {
        aNewObject();
        house();
        told();
        as();
        turns();
        set();
        fellsAndRaises();
        snow();
        dealAndSeed();
        days();
        street();
        behind();
        lasts();
        lastsLongest();
        taken();
        propped();
        wall();
        snows();
        began();
        beganBeyondHouses();
        feeAndFine();
        feedAndTrim();
        faults();
        values();
        pushTexts();
        texts();
        sheet();
        mark();
        pour();
        reads();
        copy();
        layAndAsk();
        itemAndRest();
        tellAndCheck();
        checkByTheTextsOfTheImage();
        keepAndBack();
        count();
        System.out.println(wrong == 0 ? "all promises hold" : wrong + " answers are not as due");
        if (wrong != 0) System.exit(1);
    }
}
