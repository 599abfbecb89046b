import java.util.ArrayList;
import java.util.HashSet;
import java.util.List;
import java.util.Set;

/**
 * The document told a second time, without regard to speed or room and in another shape than the class:
 * houses are rows, days have no shortcut, a TEXT is judged by all stacks that could still go on.
 */
final class Oracle {
    static final int BAD = -1000000001, NO = -1000000002, FULL = -1000000003, NONE = -1000000005,
        NOTHING = -1000000011, KIND = -1000000012, INDEX = -1000000013, SIZE = -1000000014;

    /** KIND, WEIGHT, LEAN, WALL, CRACK, PROP, STANDS. */
    static final class State {
        List<int[]> houses = new ArrayList<>();
        List<Object[]> texts = new ArrayList<>();
        int snow, rent, day, z = 1;

        State copied() {
            State s = new State();
            for (int[] h : houses) s.houses.add(h.clone());
            s.texts.addAll(texts);
            s.snow = snow;
            s.rent = rent;
            s.day = day;
            s.z = z;
            return s;
        }

        Object[] law(int key) {
            Object[] law = null;
            for (Object[] t : texts) if ((Integer) t[0] == key) law = t;
            return law;
        }

        int push(int[] h) {
            Object[] law = law(0);
            int l = h[2] < 0 ? -h[2] : h[2];
            int v = law == null ? h[1] * l / 10 : worked(law, "w", h[1], "l", l, "c", h[4]);
            v = v < 0 ? 0 : v > 999 ? 999 : v;
            if (h[0] == 5) return 0;
            if (h[0] == 1 || h[0] == 3) v = v / 2;
            if (h[0] == 3) v = v < 5 ? 0 : v - 5;
            if (h[0] == 2 || h[0] == 4) v = v + 4;
            if (h[0] == 4) v = v + v;
            return v;
        }

        static int bears(int[] h) {
            int v = h[3] + 10 * h[5];
            return h[0] == 5 ? 999 : h[0] == 1 || h[0] == 3 ? v + 5 : h[0] == 0 ? v : v + v;
        }

        static int worth(int[] h) {
            int[] all = {h[3], h[3] + 7, 99 - h[3], 2 * h[3] + 14, 94 - h[3], 6};
            return all[h[0]];
        }

        int next(int k, int step) {
            for (int j = k + step; j >= 0 && j < houses.size(); j += step) if (houses.get(j)[6] == 1) return j;
            return -1;
        }

        int thrust(int k) {
            if (houses.get(k)[6] == 0) return 0;
            int left = next(k, -1);
            int right = next(k, 1);
            int v = snow;
            if (left >= 0 && houses.get(left)[2] > 0) v += push(houses.get(left));
            if (right >= 0 && houses.get(right)[2] < 0) v -= push(houses.get(right));
            return v;
        }

        boolean holds(int k) {
            int t = thrust(k);
            return (t < 0 ? -t : t) <= bears(houses.get(k));
        }

        void oneDay() {
            State old = copied();
            for (int k = 0; k < houses.size(); k++) {
                int[] h = houses.get(k);
                int t = old.thrust(k);
                if (h[6] == 1 && Math.abs(t) > bears(old.houses.get(k))) {
                    h[4] = Math.min(999, h[4] + Math.abs(t) - bears(old.houses.get(k)));
                    h[2] = Math.max(-50, Math.min(50, h[2] + Integer.signum(t)));
                }
            }
            for (int[] h : houses) if (h[6] == 1 && h[4] >= 100) fall(h);
            boolean again = true;
            while (again) {
                again = false;
                for (int k = 0; k < houses.size(); k++) {
                    int[] h = houses.get(k);
                    if (h[6] == 0 || h[2] > -20 && h[2] < 20) continue;
                    int j = old.next(k, h[2] > 0 ? 1 : -1);
                    if (j >= 0 && houses.get(j)[6] == 0) {
                        fall(h);
                        again = true;
                    }
                }
            }
            rent += sum(5);
            day++;
        }

        static void fall(int[] h) {
            h[6] = 0;
            h[5] = 0;
        }

        State after(int n) {
            State s = copied();
            for (int i = 0; i < n; i++) s.oneDay();
            return s;
        }

        int set() {
            int v = 0;
            for (int k = 0; k < houses.size(); k++) if (houses.get(k)[6] == 1) v += 1 << k;
            return v;
        }

        int sum(int what) {
            int v = 0;
            for (int[] h : houses) v += h[what];
            return v;
        }

        int draw() {
            z = z * 1103515245 + 12345;
            return z >>> 8;
        }
    }

    private State now = new State();
    private State image = null;
    private final int[][] sheets = new int[4][];
    private final int[] sorts = new int[4];
    private final Object[] slots = new Object[5];
    private List<Integer> waiting = new ArrayList<>();
    private List<Integer> tape = new ArrayList<>();

    private static boolean in(int v, int least, int most) {
        return v >= least && v <= most;
    }

    private boolean isHouse(int k) {
        return in(k, 0, now.houses.size() - 1);
    }

    private static boolean under(int kind, int above) {
        return kind == above || above == 0 || above == 1 && kind == 3 || above == 2 && kind == 4;
    }

    int call(String name, int... a) {
        switch (name) {
            case "house": case "told": case "as": case "turns": case "set": case "fells": case "raises":
            case "snow": case "deal": case "seed": case "days": case "street":
                return ofHouses(name, a);
            case "behind": case "lasts": case "taken": case "propped": case "wall": case "snows": case "began":
            case "fee": case "fine":
                return ofThoughts(name, a);
            case "feed": case "trim": case "text": case "textTold": case "why":
                return ofTexts(name, a);
            case "sheet": case "mark": case "pour": case "reads": case "copy":
                return ofSheets(name, a);
            case "lay": case "ask": case "item": case "rest":
                return ofSlots(name, a);
            default:
                return ofRows(name, a);
        }
    }

    private int ofHouses(String name, int[] a) {
        int[] h = a.length > 0 && isHouse(a[0]) ? now.houses.get(a[0]) : null;
        switch (name) {
            case "house":
                if (!in(a[0], 0, 5) || !in(a[1], 1, 99) || !in(a[2], -50, 50) || !in(a[3], 0, 99)) return BAD;
                if (now.houses.size() == 9) return FULL;
                now.houses.add(new int[] {a[0], a[1], a[2], a[3], 0, 0, 1});
                return now.houses.size() - 1;
            case "told":
                if (h == null || !in(a[1], 0, 10)) return BAD;
                return a[1] < 7 ? h[a[1]] : a[1] == 7 ? now.push(h) : a[1] == 8 ? State.bears(h)
                    : a[1] == 9 ? now.thrust(a[0]) : State.worth(h);
            case "as":
                if (h == null || !in(a[1], 0, 5)) return BAD;
                return under(h[0], a[1]) ? h[3] : KIND;
            case "turns": {
                if (h == null || !in(a[1], 0, 5)) return BAD;
                int was = h[0];
                h[0] = a[1];
                return was;
            }
            case "set": {
                int[][] bounds = {null, {1, 99}, {-50, 50}, {0, 99}, {0, 999}, {0, 9}};
                if (h == null || !in(a[1], 1, 5) || !in(a[2], bounds[a[1]][0], bounds[a[1]][1])) return BAD;
                int was = h[a[1]];
                h[a[1]] = a[2];
                return was;
            }
            case "fells":
                if (h == null) return BAD;
                if (h[6] == 0) return NO;
                State.fall(h);
                return now.sum(6);
            case "raises":
                if (h == null) return BAD;
                if (h[6] == 1) return NO;
                h[6] = 1;
                h[2] = 0;
                h[4] = 0;
                return now.sum(6);
            case "snow": {
                if (!in(a[0], -20, 20)) return BAD;
                int was = now.snow;
                now.snow = a[0];
                return was;
            }
            case "deal": {
                if (!in(a[0], 1, 9)) return BAD;
                int came = 0;
                while (came < a[0] && now.houses.size() < 9) {
                    int kind = now.draw() % 6;
                    int weight = now.draw() % 60 + 1;
                    int lean = now.draw() % 41 - 20;
                    now.houses.add(new int[] {kind, weight, lean, now.draw() % 60, 0, 0, 1});
                    came++;
                }
                return came;
            }
            case "seed": {
                int was = now.z;
                now.z = a[0];
                return was;
            }
            case "days": {
                if (!in(a[0], 1, 100)) return BAD;
                int stood = now.sum(6);
                for (int i = 0; i < a[0] && now.day < 9999; i++) now.oneDay();
                return stood - now.sum(6);
            }
            default: {
                if (!in(a[0], 0, 4)) return BAD;
                if (a[0] == 0) return now.rent;
                if (a[0] == 1) return now.set();
                if (a[0] < 4) return now.sum(a[0] + 2);
                int v = 0;
                for (int k = 0; k < now.houses.size(); k++) if (now.houses.get(k)[6] == 1 && !now.holds(k)) v += 1 << k;
                return v;
            }
        }
    }

    private int ofThoughts(String name, int[] a) {
        int many = now.houses.size();
        switch (name) {
            case "behind": {
                if (!in(a[0], 0, 100) || !in(a[1], 0, 2 + many)) return BAD;
                State s = now.after(a[0]);
                return a[1] == 0 ? s.set() : a[1] == 1 ? s.sum(4) : a[1] == 2 ? s.rent : s.houses.get(a[1] - 3)[2];
            }
            case "lasts": {
                State s = now.copied();
                for (int i = 1; i <= 300; i++) {
                    s.oneDay();
                    if (s.set() != now.set()) return i;
                }
                return NONE;
            }
            case "taken": {
                if (!isHouse(a[0]) || !in(a[1], 1, 60)) return BAD;
                if (now.houses.get(a[0])[6] == 0) return NO;
                State s = now.copied();
                State.fall(s.houses.get(a[0]));
                int v = now.set() & ~s.after(a[1]).set() & now.after(a[1]).set();
                return v & ~(1 << a[0]);
            }
            case "propped": {
                if (!in(a[0], 1, 40)) return BAD;
                if (now.after(a[0]).set() == now.set()) return 0;
                int best = NONE;
                for (int k = many - 1; k >= 0; k--) {
                    for (int more = 9 - now.houses.get(k)[5]; more > 0; more--) {
                        State s = now.copied();
                        s.houses.get(k)[5] += more;
                        boolean enough = s.after(a[0]).set() == now.set();
                        if (enough && (best == NONE || more <= best % 10)) best = 10 * k + more;
                    }
                }
                return best;
            }
            case "wall": {
                if (!in(a[0], 1, 60) || !in(a[1], 0, 1)) return BAD;
                int best = NONE;
                int most = NONE;
                for (int k = many - 1; k >= 0; k--) {
                    State s = now.copied();
                    s.houses.get(k)[3] = 0;
                    int fallen = many - s.after(a[0]).sum(6);
                    if (fallen >= most) {
                        best = k;
                        most = fallen;
                    }
                }
                return a[1] == 0 ? best : most;
            }
            case "snows": {
                if (!in(a[0], 1, 60)) return BAD;
                int best = NONE;
                for (int v = 0; v <= 20; v++) {
                    State s = now.copied();
                    s.snow = v;
                    if (s.after(a[0]).set() == now.set()) best = v;
                }
                return best;
            }
            case "began": {
                if (!in(a[0], 0, 3) || !in(a[1], 0, 60) || !in(a[2], 0, 1)) return BAD;
                if (sheets[a[0]] == null) return NOTHING;
                int best = NONE;
                int least = NONE;
                for (int k = many - 1; k >= 0; k--) {
                    State s = now.copied();
                    s.houses.get(k)[3] = 0;
                    s = s.after(a[1]);
                    int differs = 0;
                    for (int p = 0; p < sheets[a[0]].length; p++) {
                        int v = sheets[a[0]][p];
                        if (v != NONE) differs += Math.abs(v - (p < many ? s.houses.get(p)[4] : 0));
                    }
                    if (best == NONE || differs <= least) {
                        best = k;
                        least = differs;
                    }
                }
                return a[2] == 0 ? best : least;
            }
            case "fee": {
                Object[] law = now.law(1);
                return law == null ? now.rent : worked(law, "r", now.rent, "d", now.day, "", 0);
            }
            default: {
                if (!isHouse(a[0])) return BAD;
                int[] h = now.houses.get(a[0]);
                Object[] law = now.law(2);
                return law == null ? h[4] : worked(law, "c", h[4], "p", h[5], "", 0);
            }
        }
    }

    private int ofTexts(String name, int[] a) {
        switch (name) {
            case "feed":
                if (tape.size() > 84) return FULL;
                for (int v : a) {
                    for (int i = 3; i >= 0; i--) tape.add(v >> 8 * i & 255);
                }
                return tape.size();
            case "trim":
                if (!in(a[0], 0, tape.size())) return BAD;
                tape = new ArrayList<>(tape.subList(0, a[0]));
                return a[0];
            case "text": {
                List<Token> tokens = tokens(tape);
                tape = new ArrayList<>();
                int fault = fault(tokens);
                if (fault >= 0) return -100 - fault;
                if (now.texts.size() == 14) return FULL;
                List<Token> law = tokens.subList(1, tokens.size() - 1);
                now.texts.add(new Object[] {KEYS.indexOf(tokens.get(0).word), law, tree(law)});
                return now.texts.size() - 1;
            }
            case "textTold": {
                if (!in(a[0], 0, now.texts.size() - 1) || !in(a[1], 0, 1)) return BAD;
                if (a[1] == 0) return (Integer) now.texts.get(a[0])[0];
                int v = 0;
                for (Token t : row(now.texts.get(a[0]))) if (t.sort != 's') v++;
                return v;
            }
            default: {
                if (!in(a[0], 0, 2)) return BAD;
                Object[] law = now.law(a[0]);
                return law == null ? NONE : now.texts.indexOf(law);
            }
        }
    }

    private int ofSheets(String name, int[] a) {
        if (!in(a[0], 0, 3)) return BAD;
        int[] row = sheets[a[0]];
        if (name.equals("sheet")) {
            if (!in(a[1], -1, 1)) return BAD;
            if (a[1] == -1) {
                sheets[a[0]] = null;
                return 0;
            }
            if (a[2] > 24) return BAD;
            if (a[2] < 0) return SIZE;
            sheets[a[0]] = new int[a[2]];
            sorts[a[0]] = a[1];
            return a[2];
        }
        if (name.equals("copy")) {
            if (!in(a[2], 0, 3)) return BAD;
            int[] to = sheets[a[2]];
            if (row == null || to == null) return NOTHING;
            if (sorts[a[0]] != sorts[a[2]]) return KIND;
            long many = a[4];
            if (many < 0 || a[1] < 0 || a[3] < 0 || a[1] + many > row.length || a[3] + many > to.length) return INDEX;
            int[] was = row.clone();
            for (int i = 0; i < many; i++) to[a[3] + i] = was[a[1] + i];
            return a[4];
        }
        if (row == null) return NOTHING;
        if (name.equals("mark")) {
            if (!in(a[1], 0, row.length - 1)) return INDEX;
            if (sorts[a[0]] == 0) {
                if (a[2] == NONE) return KIND;
                int low = a[2] & 0xffff;
                row[a[1]] = low > 32767 ? low - 65536 : low;
                return 1;
            }
            if (a[2] != NONE && !in(a[2], -99999, 99999)) return BAD;
            row[a[1]] = a[2];
            return 1;
        }
        if (name.equals("pour")) {
            int changed = 0;
            for (int k = 0; k < now.houses.size(); k++) {
                if (k >= row.length || row[k] == NONE) continue;
                int v = row[k] < 0 ? 0 : row[k] > 99 ? 99 : row[k];
                if (now.houses.get(k)[3] != v) changed++;
                now.houses.get(k)[3] = v;
            }
            return changed;
        }
        for (int k = 0; k < row.length; k++) {
            if (row[k] == NONE) continue;
            if (!isHouse(k) || now.houses.get(k)[2] != row[k]) return k;
        }
        return NONE;
    }

    private int ofSlots(String name, int[] a) {
        if (!in(a[0], 0, 4)) return BAD;
        Object held = slots[a[0]];
        if (name.equals("lay")) {
            int was = held == null ? 0 : held instanceof Integer ? 3 : ((int[][]) held).length == 1 ? 1 : 2;
            if (!in(a[1], 0, 3)) return BAD;
            if (a[1] == 1 && !isHouse(a[2]) || a[1] == 2 && !in(a[2], 0, 3)) return BAD;
            if (a[1] == 2 && sheets[a[2]] == null) return NOTHING;
            slots[a[0]] = a[1] == 0 ? null : a[1] == 3 ? (Object) a[2]
                : a[1] == 1 ? new int[][] {now.houses.get(a[2]).clone()} : new int[][] {sheets[a[2]].clone(), null};
            return was;
        }
        if (name.equals("ask") && !in(a[1], 0, 5)) return BAD;
        if (held == null) return NOTHING;
        if (name.equals("rest")) {
            if (!(held instanceof Integer)) return KIND;
            return a[1] == 0 ? NO : (int) ((long) (Integer) held % a[1]);
        }
        if (held instanceof Integer) return KIND;
        int[][] thing = (int[][]) held;
        if (name.equals("ask")) return thing.length != 1 || !under(thing[0][0], a[1]) ? KIND : State.worth(thing[0]);
        if (thing.length != 2) return KIND;
        if (!in(a[1], 0, thing[0].length - 1)) return INDEX;
        return thing[0][a[1]] == NONE ? KIND : thing[0][a[1]];
    }

    private int ofRows(String name, int[] a) {
        switch (name) {
            case "tell":
                if (waiting.size() == 60) return FULL;
                waiting.add(a[0]);
                return waiting.size();
            case "check": {
                List<Integer> given = waiting;
                waiting = new ArrayList<>();
                if (!in(a[0], 1, 30)) return BAD;
                if (image == null) return NO;
                List<Integer> due = new ArrayList<>();
                State s = image.copied();
                for (int i = 0; i < a[0] && s.day < 9999; i++) {
                    s.oneDay();
                    due.add(s.sum(6));
                    due.add(s.sum(4));
                }
                if (due.equals(given)) return 0;
                int i = 0;
                while (i < due.size() && i < given.size() && due.get(i).equals(given.get(i))) i++;
                return 1 + i;
            }
            case "keep":
                image = now.copied();
                return now.houses.size();
            case "back":
                if (image == null) return NO;
                now = image.copied();
                return now.houses.size();
            case "count": {
                int[] all = {now.houses.size(), now.sum(6), now.day, now.snow, now.texts.size(), waiting.size(), tape.size(), now.z};
                return in(a[0], 0, 7) ? all[a[0]] : BAD;
            }
            default:
                throw new IllegalArgumentException(name);
        }
    }

    // ---- texts

    static final List<String> KEYS = List.of("push", "fee", "fine");
    static final List<String> NAMES = List.of("wlc", "rd", "cp");

    /** sort: l letters, d digits, s a sign, g a word that needs a blank ahead of it, e the end. */
    record Token(char sort, String word, int place) { }

    static List<Token> tokens(List<Integer> bytes) {
        List<Token> all = new ArrayList<>();
        int i = 0;
        boolean wordAhead = false;
        while (i < bytes.size()) {
            int b = bytes.get(i);
            int j = i + 1;
            if (b == 32) {
                wordAhead = false;
            } else if (kindOf(b) == 's') {
                all.add(new Token('s', "" + (char) b, i));
                wordAhead = false;
            } else {
                StringBuilder word = new StringBuilder().append((char) b);
                while (j < bytes.size() && kindOf(bytes.get(j)) == kindOf(b)) word.append((char) (int) bytes.get(j++));
                all.add(new Token(wordAhead ? 'g' : kindOf(b), word.toString(), i));
                wordAhead = true;
            }
            i = j;
        }
        all.add(new Token('e', "", bytes.size()));
        return all;
    }

    private static char kindOf(int b) {
        return "abcdefghijklmnopqrstuvwxyz".indexOf(b) >= 0 ? 'l' : "0123456789".indexOf(b) >= 0 ? 'd' : 's';
    }

    /** The place of the FAULT, or -1. */
    static int fault(List<Token> tokens) {
        Set<List<String>> stacks = new HashSet<>();
        for (String key : KEYS) stacks.add(List.of("word " + key, "or 0 0 " + NAMES.get(KEYS.indexOf(key)), "end"));
        for (Token t : tokens) {
            Set<List<String>> next = new HashSet<>();
            for (List<String> stack : stacks) step(stack, t, next);
            if (next.isEmpty()) return t.place;
            stacks = next;
        }
        return -1;
    }

    private static void step(List<String> stack, Token t, Set<List<String>> next) {
        String[] top = stack.get(0).split(" ");
        List<String> below = stack.subList(1, stack.size());
        boolean terminal = true;
        boolean good = false;
        switch (top[0]) {
            case "word": good = t.sort == 'l' && t.word.equals(top[1]); break;
            case "number": good = t.sort == 'd' && t.word.length() <= 4; break;
            case "name": good = t.sort == 'l' && t.word.length() == 1 && top[1].contains(t.word); break;
            case "sign": good = t.sort == 's' && t.word.equals(top[1]); break;
            case "end": good = t.sort == 'e'; break;
            default: terminal = false;
        }
        if (terminal) {
            if (good) next.add(new ArrayList<>(below));
            return;
        }
        for (List<String> way : ways(top)) {
            List<String> longer = new ArrayList<>(way);
            longer.addAll(below);
            step(longer, t, next);
        }
    }

    private static List<List<String>> ways(String[] top) {
        int open = Integer.parseInt(top[1]);
        int nots = Integer.parseInt(top[2]);
        String names = top[3];
        String same = " " + open + " " + nots + " " + names;
        List<List<String>> ways = new ArrayList<>();
        switch (top[0]) {
            case "or": ways.add(List.of("and" + same, "ors" + same)); break;
            case "ors": more(ways, "|", "and" + same, "ors" + same); break;
            case "and": ways.add(List.of("test" + same, "ands" + same)); break;
            case "ands": more(ways, "&", "test" + same, "ands" + same); break;
            case "test": ways.add(List.of("sum" + same, "tests" + same)); break;
            case "tests":
                ways.add(List.of());
                for (String s : List.of("<", "=", ">")) ways.add(List.of("sign " + s, "sum" + same));
                break;
            case "sum": ways.add(List.of("term" + same, "sums" + same)); break;
            case "sums": more(ways, "+-", "term" + same, "sums" + same); break;
            case "term": ways.add(List.of("piece" + same, "terms" + same)); break;
            case "terms": more(ways, "*/", "piece" + same, "terms" + same); break;
            default:
                ways.add(List.of("number"));
                ways.add(List.of("name " + names));
                if (nots < 8) ways.add(List.of("sign !", "piece " + open + " " + (nots + 1) + " " + names));
                if (open < 8) ways.add(List.of("sign (", "or " + (open + 1) + " " + nots + " " + names, "sign )"));
        }
        return ways;
    }

    private static void more(List<List<String>> ways, String signs, String piece, String again) {
        ways.add(List.of());
        for (char s : signs.toCharArray()) ways.add(List.of("sign " + s, piece, again));
    }

    @SuppressWarnings("unchecked")
    private static List<Token> row(Object[] law) {
        return (List<Token>) law[1];
    }

    static int worked(Object[] law, Object... names) {
        return worked((Node) law[2], names);
    }

    record Node(char sign, int number, String name, Node left, Node right) { }

    /** Cuts the row at the loosest sign, the last of its like, that stands in no ( ). */
    private static Node tree(List<Token> row) {
        for (String signs : List.of("|", "&", "<=>", "+-", "*/")) {
            int open = 0;
            for (int i = row.size() - 1; i >= 0; i--) {
                String s = row.get(i).word;
                open += s.equals(")") ? 1 : s.equals("(") ? -1 : 0;
                if (open == 0 && row.get(i).sort == 's' && signs.contains(s)) {
                    return new Node(s.charAt(0), 0, null, tree(row.subList(0, i)), tree(row.subList(i + 1, row.size())));
                }
            }
        }
        Token first = row.get(0);
        if (first.word.equals("!")) return new Node('!', 0, null, tree(row.subList(1, row.size())), null);
        if (first.word.equals("(")) return tree(row.subList(1, row.size() - 1));
        if (first.sort == 'd') return new Node('d', Integer.parseInt(first.word), null, null, null);
        return new Node('n', 0, first.word, null, null);
    }

    private static int worked(Node node, Object[] names) {
        if (node.sign == 'd') return node.number;
        if (node.sign == 'n') {
            for (int i = 0; i < names.length; i += 2) if (names[i].equals(node.name)) return (Integer) names[i + 1];
            throw new IllegalArgumentException(node.name);
        }
        int left = worked(node.left, names);
        if (node.sign == '!') return left == 0 ? 1 : 0;
        return joined(node.sign, left, worked(node.right, names));
    }

    private static int joined(char sign, int a, int b) {
        switch (sign) {
            case '|': return a == 0 && b == 0 ? 0 : 1;
            case '&': return a == 0 || b == 0 ? 0 : 1;
            case '<': return a < b ? 1 : 0;
            case '=': return a == b ? 1 : 0;
            case '>': return a > b ? 1 : 0;
            case '+': return a + b;
            case '-': return a - b;
            case '*': return a * b;
            default: return b == 0 ? 0 : (int) ((long) a / b);
        }
    }
}
