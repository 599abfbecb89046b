import java.util.ArrayList;
import java.util.HashMap;
import java.util.List;
import java.util.Map;

/** Each call that is refused, right beyond each boundary and far off; and that what later calls show is as if it had not been made. */
public final class RefusalsTest {
    private static final String CHANGES_NOTHING = "changes nothing (but the tape and the numbers that wait, where told)";

    private static final String NEW = "";
    /** Five HOUSES, two of them FALLEN, an IMAGE in which one of these stands, and something of each thing that there is. */
    private static final String SOME = """
        house(0, 10, 20, 30); house(1, 20, -25, 3); house(2, 28, 15, 6); house(3, 37, 30, 9); house(4, 46, -10, 12)
        set(0, 4, 7); set(1, 5, 2); fells(2); snow(3); seed(99)
        text "push w+l"; text "fine c+p"; text "fee r*2"
        keep(); days(2); set(0, 1, 11)
        sheet(0, 0, 5); mark(0, 0, 30); mark(0, 3, -7); sheet(1, 1, 6); mark(1, 0, NONE); mark(1, 4, 99999); sheet(3, 1, 0)
        lay(0, 1, 0); lay(1, 2, 1); lay(2, 3, 17); lay(3, 1, 4)
        tell(3); tell(122); tell(3)
        tape "fee r+d*7"
        """;
    /** Nine HOUSES, fourteen TEXTS, 96 bytes, sixty numbers that are THE DAYS TOLD of thirty DAYS. */
    private static final String FULL = """
        9 * house(5, 1, 0, 0)
        14 * text "fee d+3"
        keep(); deal(9); sheet(0, 0, 24); sheet(1, 1, 24); lay(0, 2, 0); lay(1, 2, 1)
        """ + "tell(9); tell(0);".repeat(30) + "tape \"fine " + "(".repeat(91) + "\"\n";

    /** No IMAGE, but something of each other thing. */
    private static final String UNKEPT = SOME.replace("keep();", "");
    /** One HOUSE that neither PROPS nor SNOW save, and SHEETS in which nothing is otherwise than it. */
    private static final String LOST = """
        house(0, 1, 7, 0); set(0, 4, 100); seed(9); text "fee r*2"; keep(); set(0, 3, 5); tell(0); tell(100)
        sheet(0, 0, 1); mark(0, 0, 7); sheet(1, 1, 2); mark(1, 0, NONE); mark(1, 1, NONE); lay(0, 2, 0); lay(1, 2, 1)
        tape "fee r+d*7"
        """;

    private static final Map<String, List<List<Integer>>> DUE = new HashMap<>();

    private static List<List<Integer>> toldOf(String ready, String call) {
        List<List<Integer>> all = new ArrayList<>();
        for (int part = 0; part < Told.PARTS; part++) {
            LeaningStreet x = Runs.made(ready);
            if (!call.isEmpty()) Runs.answer(x, call);
            all.add(Told.part(x, part));
        }
        return all;
    }

    /** Calls, each on an object made ready so: the answer, and that nothing else shows. */
    private static void refused(String place, String ready, String calls) {
        unlike(place, ready, ready, calls);
    }

    /** The same, where a refused call leaves what it leaves: what it shows then is that of an object made ready otherwise. */
    private static void unlike(String place, String ready, String readyThen, String calls) {
        for (String line : calls.split("[\n;]")) {
            if (line.isBlank()) continue;
            String[] sides = line.split(" = ");
            String call = sides[0].strip();
            Runs.due(place + ": " + call, Runs.answer(Runs.made(ready), call), Runs.number(sides[1].strip()));
            asIfNotMade(place + " '" + CHANGES_NOTHING + "', behind " + call, toldOf(ready, call), readyThen);
        }
    }

    private static void asIfNotMade(String name, List<List<Integer>> got, String ready) {
        List<List<Integer>> due = DUE.computeIfAbsent(ready, key -> toldOf(key, ""));
        for (int part = 0; part < Told.PARTS; part++) {
            for (int i = 0; i < due.get(part).size(); i++) {
                Runs.due(name + ", telling " + i + " of part " + part, got.get(part).get(i), due.get(part).get(i));
            }
        }
    }

    /** A call with ? for a number: the least and the most are taken, those right beyond and far off are refused. */
    private static void within(String place, String call, int least, int most, String refusal) {
        for (int v : new int[] {least, most}) {
            String taken = call.replace("?", "" + v);
            int got = Runs.answer(Runs.made(SOME), taken);
            if (got == Runs.number(refusal)) Runs.due(place + ": " + taken, got, 0);
        }
        for (int v : new int[] {least - 1, most + 1, Integer.MIN_VALUE, Integer.MAX_VALUE}) {
            refused(place, SOME, call.replace("?", "" + v) + " = " + refusal);
        }
    }

    private static void numbersOfHouses() {
        String[] calls = {"3 told(?, 0)", "4 as(?, 0)", "5 turns(?, 1)", "6 set(?, 1, 9)", "7 fells(?)", "8 raises(?)", "16 taken(?, 1)",
            "22 fine(?)", "33 lay(0, 1, ?)"};
        for (String call : calls) within(call.split(" ")[0], call.split(" ", 2)[1], 0, 4, "BAD");
        within("14", "behind(1, ?)", 0, 3 + 4, "BAD");
    }

    private static void numbersThatAreNamed() {
        within("2", "house(?, 1, 0, 0)", 0, 5, "BAD");
        within("2", "house(0, ?, 0, 0)", 1, 99, "BAD");
        within("2", "house(0, 1, ?, 0)", -50, 50, "BAD");
        within("2", "house(0, 1, 0, ?)", 0, 99, "BAD");
        within("3", "told(4, ?)", 0, 10, "BAD");
        within("4", "as(4, ?)", 0, 5, "BAD");
        within("5", "turns(4, ?)", 0, 5, "BAD");
        within("6", "set(4, ?, 5)", 1, 5, "BAD");
        within("6", "set(4, 1, ?)", 1, 99, "BAD");
        within("6", "set(4, 2, ?)", -50, 50, "BAD");
        within("6", "set(4, 3, ?)", 0, 99, "BAD");
        within("6", "set(4, 4, ?)", 0, 999, "BAD");
        within("6", "set(4, 5, ?)", 0, 9, "BAD");
        within("9", "snow(?)", -20, 20, "BAD");
        within("10", "deal(?)", 1, 9, "BAD");
        within("12", "days(?)", 1, 100, "BAD");
        within("13", "street(?)", 0, 4, "BAD");
        within("14", "behind(?, 0)", 0, 100, "BAD");
        within("16", "taken(0, ?)", 1, 60, "BAD");
        within("17", "propped(?)", 1, 40, "BAD");
        within("18", "wall(?, 0)", 1, 60, "BAD");
        within("18", "wall(1, ?)", 0, 1, "BAD");
        within("19", "snows(?)", 1, 60, "BAD");
        within("20", "began(?, 1, 0)", 0, 3, "BAD");
        within("20", "began(0, ?, 0)", 0, 60, "BAD");
        within("20", "began(0, 1, ?)", 0, 1, "BAD");
        within("24", "trim(?)", 0, 9, "BAD");
        within("26", "textTold(?, 0)", 0, 2, "BAD");
        within("26", "textTold(1, ?)", 0, 1, "BAD");
        within("27", "why(?)", 0, 2, "BAD");
        within("41", "count(?)", 0, 7, "BAD");
    }

    private static void numbersOfSheetsAndSlots() {
        within("28", "sheet(?, 0, 1)", 0, 3, "BAD");
        within("28", "sheet(0, ?, 1)", -1, 1, "BAD");
        within("29", "mark(?, 0, 0)", 0, 3, "BAD");
        within("29", "mark(0, ?, 0)", 0, 4, "INDEX");
        within("30", "pour(?)", 0, 3, "BAD");
        within("31", "reads(?)", 0, 3, "BAD");
        within("32", "copy(?, 0, 0, 0, 1)", 0, 3, "BAD");
        within("32", "copy(0, 0, ?, 0, 1)", 0, 3, "BAD");
        within("32", "copy(0, ?, 0, 0, 2)", 0, 3, "INDEX");
        within("32", "copy(0, 0, 0, ?, 2)", 0, 3, "INDEX");
        within("32", "copy(0, 1, 0, 0, ?)", 0, 4, "INDEX");
        within("32", "copy(0, 0, 0, 1, ?)", 0, 4, "INDEX");
        within("33", "lay(?, 3, 5)", 0, 4, "BAD");
        within("33", "lay(4, ?, 0)", 0, 3, "BAD");
        within("33", "lay(4, 2, ?)", 0, 3, "BAD");
        within("34", "ask(?, 0)", 0, 4, "BAD");
        within("34", "ask(3, ?)", 0, 5, "BAD");
        within("35", "item(?, 0)", 0, 4, "BAD");
        within("35", "item(1, ?)", 0, 5, "INDEX");
        within("36", "rest(?, 3)", 0, 4, "BAD");
        refused("28", SOME, "sheet(0, 0, 25) = BAD; sheet(0, 1, 25) = BAD; sheet(0, 0, HIGH) = BAD; sheet(0, 0, -1) = SIZE; sheet(0, 1, -1) = SIZE; sheet(0, 1, LOW) = SIZE");
        refused("29", SOME, "mark(1, 1, 100000) = BAD; mark(1, 1, -100000) = BAD; mark(1, 1, HIGH) = BAD; mark(1, 1, LOW) = BAD; mark(0, 1, NONE) = KIND");
    }

    /** NO, FULL and the FINDINGS that stand in the way of a call whose numbers are good. */
    private static void whatStandsInTheWay() {
        refused("2", FULL, "house(0, 1, 0, 0) = FULL; house(6, 1, 0, 0) = BAD");
        refused("10", FULL, "deal(1) = 0; deal(9) = 0; deal(10) = BAD; deal(0) = BAD");
        refused("7", SOME, "fells(2) = NO");
        refused("8", SOME, "raises(0) = NO; raises(4) = NO");
        refused("16", SOME, "taken(2, 1) = NO; taken(2, 60) = NO");
        refused("23", FULL, "feed(0, 0, 0) = FULL; feed(-1, -1, -1) = FULL");
        refused("24", FULL, "trim(97) = BAD; trim(-1) = BAD");
        refused("37", FULL, "tell(0) = FULL; tell(9) = FULL");
        refused("20", SOME, "began(2, 1, 0) = NOTHING");
        refused("29", SOME, "mark(2, 0, 0) = NOTHING; mark(3, 0, 0) = INDEX");
        refused("30", SOME, "pour(2) = NOTHING");
        refused("31", SOME, "reads(2) = NOTHING");
        refused("32", SOME, "copy(2, 0, 0, 0, 1) = NOTHING; copy(0, 0, 2, 0, 1) = NOTHING; copy(0, 0, 1, 0, 1) = KIND; copy(1, 0, 0, 0, 1) = KIND; copy(1, 0, 3, 0, 1) = INDEX; copy(3, 0, 1, 0, 1) = INDEX");
        refused("33", SOME, "lay(0, 2, 2) = NOTHING; lay(4, 2, 2) = NOTHING");
        refused("34", SOME, "ask(4, 0) = NOTHING; ask(1, 0) = KIND; ask(2, 0) = KIND; ask(3, 1) = KIND");
        refused("35", SOME, "item(4, 0) = NOTHING; item(0, 0) = KIND; item(2, 0) = KIND; item(1, 0) = KIND");
        refused("36", SOME, "rest(4, 1) = NOTHING; rest(0, 1) = KIND; rest(1, 1) = KIND; rest(2, 0) = NO");
        refused("4", SOME, "as(0, 1) = KIND; as(1, 3) = KIND; as(4, 5) = KIND");
        refused("40", UNKEPT, "back() = NO");
        refused("40", NEW, "back() = NO");
        refused("15 to 20", NEW, "lasts() = NONE; wall(1, 0) = NONE; began(0, 1, 0) = NOTHING; fine(0) = BAD; fells(0) = BAD; told(0, 0) = BAD");
    }

    /** These use up what they read, and nothing else. */
    private static void whatIsUsedUp() {
        String said = "an act that reads it uses it up, whatever it answers";
        Runs.isInTheDocument(said);
        unlike("25 '" + said + "'", FULL, FULL + "trim(0)", "text() = FAULT 13");
        unlike("25 '" + said + "'", FULL + "trim(8)", FULL + "trim(0)", "text() = FAULT 8");
        unlike("25 '" + said + "'", FULL + "trim(0); tape \"fee 1\"", FULL + "trim(0)", "text() = FULL");
        said = "(none do then, whatever is answered)";
        Runs.isInTheDocument(said);
        String none = SOME.replaceAll("tell\\(\\d+\\);?", "");
        unlike("38 '" + said + "'", SOME, none, "check(0) = BAD; check(31) = BAD; check(LOW) = BAD; check(HIGH) = BAD; check(1) = 3; check(30) = 4");
        unlike("38 '" + said + "'", UNKEPT, none.replace("keep();", ""), "check(1) = NO; check(30) = NO; check(0) = BAD; check(31) = BAD");
        unlike("38 '" + said + "'", "tell(7)", NEW, "check(1) = NO; check(30) = NO; check(0) = BAD; check(31) = BAD");
        String full = FULL.replaceAll("tell\\(\\d+\\);?", "");
        unlike("38 '" + said + "'", FULL, full, "check(30) = 0; check(29) = 59; check(1) = 3; check(31) = BAD");
    }

    /** Acts that tell alone: as little shows of them as of one that is refused. */
    private static void whatOnlyTells() {
        String said = "(All this is only thought: nothing changes.)";
        Runs.isInTheDocument(said);
        String calls = "behind(100, 0); behind(7, 1); lasts(); taken(0, 60); taken(3, 1); propped(40); propped(1); wall(60, 1); wall(1, 0); snows(60); began(0, 60, 1); began(1, 0, 0); fee(); fine(2);";
        calls += "told(0, 9); as(4, 2); street(4); textTold(0, 1); why(0); reads(0); reads(1); ask(0, 0); item(1, 4); rest(2, 5); count(1)";
        for (String call : calls.split(";")) {
            for (String ready : new String[] {SOME, FULL, UNKEPT, LOST}) {
                asIfNotMade("3 '" + said + "', behind " + call.strip(), toldOf(ready, call.strip()), ready);
            }
        }
        refused("17, 19, 31", LOST, "propped(1) = NONE; propped(40) = NONE; snows(1) = NONE; snows(60) = NONE; reads(0) = NONE; reads(1) = NONE");
    }

    public static void main(String[] args) {
        Runs.isInTheDocument(CHANGES_NOTHING);
        numbersOfHouses();
        numbersThatAreNamed();
        numbersOfSheetsAndSlots();
        whatStandsInTheWay();
        whatIsUsedUp();
        whatOnlyTells();
        Runs.end("what is refused changes nothing");
    }
}
