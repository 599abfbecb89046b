import java.util.ArrayList;
import java.util.List;

/** All that later calls show of an object, in parts, each for an object of its own since telling it uses it up. */
final class Told {
    static final int PARTS = 4;
    private static final int HOUSES = 9, TEXTS = 14, KEYS = 3, SHEETS = 4, PLACES = 24, SLOTS = 5, KINDS = 6;

    private Told() { }

    static List<Integer> part(LeaningStreet x, int part) {
        List<Integer> told = new ArrayList<>();
        if (part == 0) {
            street(x, told);
            laws(x, told);
            told.add(x.lasts());
            told.add(x.behind(9, 1));
        } else if (part == 1) {
            slots(x, told);
        } else if (part == 2) {
            sheets(x, told);
        } else {
            tape(x, told);
            told.add(x.check(30));
            told.add(x.back());
            street(x, told);
            laws(x, told);
        }
        return told;
    }

    /** What is drawn next shows z too, but it would change the street; count shows it. */
    private static void street(LeaningStreet x, List<Integer> told) {
        for (int what = 0; what <= 7; what++) told.add(x.count(what));
        for (int what = 0; what <= 4; what++) told.add(x.street(what));
        for (int k = 0; k < HOUSES; k++) {
            for (int what = 0; what <= 10; what++) told.add(x.told(k, what));
        }
    }

    private static void laws(LeaningStreet x, List<Integer> told) {
        told.add(x.fee());
        told.add(x.fine(0));
        for (int key = 0; key < KEYS; key++) told.add(x.why(key));
        for (int text = 0; text < TEXTS; text++) {
            told.add(x.textTold(text, 0));
            told.add(x.textTold(text, 1));
        }
    }

    private static void slots(LeaningStreet x, List<Integer> told) {
        for (int slot = 0; slot < SLOTS; slot++) {
            told.add(x.rest(slot, Integer.MIN_VALUE));
            for (int kind = 0; kind < KINDS; kind++) told.add(x.ask(slot, kind));
            for (int place = 0; place < PLACES; place++) told.add(x.item(slot, place));
        }
    }

    private static void sheets(LeaningStreet x, List<Integer> told) {
        for (int sheet = 0; sheet < SHEETS; sheet++) {
            told.add(x.lay(0, 2, sheet));
            for (int place = 0; place < PLACES; place++) told.add(x.item(0, place));
            told.add(x.mark(sheet, 0, LeaningStreet.NONE));
            told.add(x.mark(sheet, 0, 65536));
            x.lay(0, 0, 0);
        }
    }

    /** The tape's bytes show by the text that they are, or by where its FAULT is. */
    private static void tape(LeaningStreet x, List<Integer> told) {
        told.add(x.text());
        laws(x, told);
        told.add(x.told(0, 7));
    }
}
