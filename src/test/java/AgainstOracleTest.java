import java.lang.reflect.Method;
import java.util.ArrayList;
import java.util.Arrays;
import java.util.HashMap;
import java.util.List;
import java.util.Map;
import java.util.Random;

/** Long runs of calls by lot (the same ones each time), each answer against the Oracle's. */
public final class AgainstOracleTest {
    private static final String[] ORDER = {"house", "told", "as", "turns", "set", "fells", "raises", "snow", "deal", "seed",
        "days", "street", "behind", "lasts", "taken", "propped", "wall", "snows", "began", "fee", "fine", "feed", "trim",
        "text", "textTold", "why", "sheet", "mark", "pour", "reads", "copy", "lay", "ask", "item", "rest", "tell", "check",
        "keep", "back", "count"};
    private static final int[] EDGES = {Integer.MIN_VALUE, Integer.MAX_VALUE, -1, 0, 1, 9, 10, 24, 25, 30, 31, 40, 41, 50, 51,
        60, 61, 99, 100, 101, 999, 1000, 99999, 100000, -99999, -100000, 32768, 65535, Oracle.NONE, 12345678, -987654321};

    private static final Map<String, Method> METHODS = new HashMap<>();
    private static int wrong = 0;

    private final Random lot;
    private final LeaningStreet street = new LeaningStreet();
    private final Oracle oracle = new Oracle();
    private final List<String> told = new ArrayList<>();
    private final boolean light;
    private boolean failed = false;

    private AgainstOracleTest(long seed) {
        lot = new Random(seed);
        light = lot.nextBoolean();
    }

    private int call(String name, int... args) throws Exception {
        Object[] boxed = new Object[args.length];
        for (int i = 0; i < args.length; i++) boxed[i] = args[i];
        int got = (Integer) METHODS.get(name).invoke(street, boxed);
        int want = oracle.call(name, args);
        told.add(name + Arrays.toString(args) + " answered " + got);
        if (got != want && !failed) {
            failed = true;
            wrong++;
            System.out.println(String.join("\n", told.subList(Math.max(0, told.size() - 40), told.size())) + ", due is " + want);
        }
        return got;
    }

    private int at(int least, int most) {
        return least + lot.nextInt(most - least + 1);
    }

    private int mostly(int least, int most) {
        int way = lot.nextInt(40);
        return way == 0 ? EDGES[lot.nextInt(EDGES.length)] : way == 1 ? least - 1 : way == 2 ? most + 1
            : way == 3 ? least : way == 4 ? most : at(least, most);
    }

    private int someHouse() throws Exception {
        return mostly(0, Math.max(0, street.count(0) - 1));
    }

    private int someSheet() {
        return lot.nextInt(4) == 0 ? mostly(0, 3) : at(0, 1);
    }

    private int someSlot() {
        return lot.nextInt(4) == 0 ? mostly(0, 4) : at(0, 1);
    }

    private void feedText(String text) throws Exception {
        byte[] bytes = new byte[(text.length() + 11) / 12 * 12];
        for (int i = 0; i < bytes.length; i++) bytes[i] = (byte) (i < text.length() ? text.charAt(i) : ' ');
        for (int i = 0; i < bytes.length; i += 12) {
            int[] v = new int[3];
            for (int j = 0; j < 12; j++) v[j / 4] = v[j / 4] << 8 | bytes[i + j] & 255;
            call("feed", v[0], v[1], v[2]);
        }
        if (lot.nextInt(3) > 0) call("trim", Math.min(96, text.length()));
    }

    private String expression(int size, String names) {
        String gap = lot.nextInt(6) == 0 ? " " : "";
        if (size <= 1) {
            return lot.nextInt(3) == 0 ? "" + at(0, lot.nextBoolean() ? 12 : 9999) : "" + names.charAt(lot.nextInt(names.length()));
        }
        switch (lot.nextInt(6)) {
            case 0: return "!" + gap + expression(size - 1, names);
            case 1: return "(" + gap + expression(size - 1, names) + ")";
            default:
                String sign = "" + "|&<=>+-*/+-*/".charAt(lot.nextInt(13));
                int left = at(1, size - 1);
                return expression(left, names) + gap + sign + gap + expression(size - left, names);
        }
    }

    private String someText() {
        int key = lot.nextInt(3);
        String names = Oracle.NAMES.get(key);
        String text = Oracle.KEYS.get(key) + " " + expression(at(1, 12), names);
        int way = lot.nextInt(8);
        if (way == 0) text = "push " + "!(".repeat(at(6, 9)) + "w" + ")".repeat(at(6, 10));
        if (way == 1) text = "fine " + "!".repeat(at(7, 9)) + (lot.nextBoolean() ? "c" : "(!c)");
        if (way == 2) text = "fee" + "(".repeat(at(7, 9)) + "r" + ")".repeat(at(7, 9));
        if (way == 3 || way == 4) {
            StringBuilder b = new StringBuilder(text);
            for (int i = lot.nextInt(3); i >= 0 && b.length() > 0; i--) {
                int p = lot.nextInt(b.length());
                char c = "wlcrdp0159 ()!&|<=>+-*/#\u00e9pf".charAt(lot.nextInt(26));
                if (lot.nextBoolean()) b.deleteCharAt(p);
                else b.insert(p, c);
            }
            text = b.toString();
        }
        return text.length() > 96 ? text.substring(0, 96) : text;
    }

    private void tellDays() throws Exception {
        int n = at(1, 5);
        call("keep");
        for (int i = 0; i < n; i++) {
            call("tell", Integer.bitCount(street.behind(i + 1, 0)));
            if (lot.nextInt(20) > 0) call("tell", street.behind(i + 1, 1));
        }
        if (lot.nextInt(5) == 0) call("tell", 0);
        call("check", lot.nextInt(5) == 0 ? mostly(1, 30) : n);
    }

    private void someCall() throws Exception {
        String name = ORDER[lot.nextInt(ORDER.length)];
        switch (name) {
            case "house":
                call(name, mostly(0, 5), mostly(1, 99), mostly(-50, 50), mostly(0, light ? 99 : 30));
                break;
            case "told": call(name, someHouse(), mostly(0, 10)); break;
            case "as": case "turns": call(name, someHouse(), mostly(0, 5)); break;
            case "set": {
                int what = mostly(1, 5);
                int most = what == 4 ? 130 : what == 5 ? 9 : what == 2 ? 50 : 99;
                call(name, someHouse(), what, mostly(what == 2 ? -50 : 0, most));
                break;
            }
            case "fells": if (lot.nextInt(4) == 0) call(name, someHouse()); break;
            case "raises": case "fine": call(name, someHouse()); break;
            case "snow": call(name, mostly(-20, 20) / (light ? 4 : 1)); break;
            case "deal": call(name, mostly(1, 9)); break;
            case "seed": call(name, lot.nextInt()); break;
            case "days": call(name, lot.nextInt(3) == 0 ? mostly(1, 100) : at(1, 4)); break;
            case "street": call(name, mostly(0, 4)); break;
            case "behind": call(name, mostly(0, 100), mostly(0, 2 + street.count(0))); break;
            case "taken": call(name, someHouse(), mostly(1, 60)); break;
            case "propped": call(name, mostly(1, 40)); break;
            case "wall": call(name, mostly(1, 60), mostly(0, 1)); break;
            case "snows": call(name, mostly(1, 60)); break;
            case "began": call(name, someSheet(), mostly(0, 60), mostly(0, 1)); break;
            case "lasts": case "fee": call(name); break;
            case "keep": case "back": if (lot.nextInt(3) == 0) call(name); break;
            case "feed": call(name, lot.nextInt(), lot.nextInt(), lot.nextInt()); break;
            case "trim": call(name, mostly(0, Math.max(0, street.count(6)))); break;
            case "text":
                if (lot.nextBoolean()) call("trim", 0);
                feedText(someText());
                call(name);
                break;
            case "textTold": call(name, mostly(0, Math.max(0, street.count(4) - 1)), mostly(0, 1)); break;
            case "why": call(name, mostly(0, 2)); break;
            case "sheet": call(name, someSheet(), lot.nextInt(3) == 0 ? mostly(-1, 1) : 1, mostly(0, 24)); break;
            case "mark":
                for (int i = 0; i < 3; i++) call(name, someSheet(), at(0, 12), mostly(-20, 120));
                call(name, mostly(0, 3), mostly(0, 12), lot.nextInt(6) == 0 ? Oracle.NONE : mostly(-20, 120));
                break;
            case "pour": call(name, someSheet()); break;
            case "reads":
                if (lot.nextBoolean()) {
                    int sheet = someSheet();
                    for (int k = 0; k < street.count(0); k++) {
                        if (lot.nextInt(9) > 0) call("mark", sheet, k, street.told(k, 2));
                    }
                }
                call(name, someSheet());
                break;
            case "copy": call(name, someSheet(), mostly(0, 12), someSheet(), mostly(0, 12), mostly(0, 12)); break;
            case "lay": {
                int thing = mostly(0, 3);
                call(name, someSlot(), thing, thing == 3 ? lot.nextInt() >> lot.nextInt(32) : thing == 1 ? someHouse() : someSheet());
                break;
            }
            case "ask": call(name, someSlot(), mostly(0, 5)); break;
            case "item": call(name, someSlot(), mostly(0, 12)); break;
            case "rest": call(name, someSlot(), mostly(-9, 9)); break;
            case "tell": call(name, mostly(0, 9)); break;
            case "check":
                if (lot.nextInt(4) == 0) call(name, mostly(1, 30));
                else tellDays();
                break;
            default: call("count", mostly(0, 7)); break;
        }
    }

    private void go() throws Exception {
        if (lot.nextInt(3) == 0) {
            call("seed", lot.nextInt());
            call("deal", at(1, 9));
        }
        for (int i = 0; i < 400 && told.size() < 480 && !failed; i++) someCall();
        for (int what = 0; what < 8 && !failed; what++) call("count", what);
        for (int k = 0; k < street.count(0) && !failed; k++) for (int what = 0; what <= 10; what++) call("told", k, what);
    }

    public static void main(String[] args) throws Exception {
        for (Method m : LeaningStreet.class.getDeclaredMethods()) METHODS.put(m.getName(), m);
        int runs = args.length > 0 ? Integer.parseInt(args[0]) : 250;
        for (int i = 0; i < runs && wrong < 5; i++) new AgainstOracleTest(i).go();
        System.out.println(wrong == 0 ? "as the oracle" : wrong + " runs are not as the oracle's");
        if (wrong != 0) System.exit(1);
    }
}
