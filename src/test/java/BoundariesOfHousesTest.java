/** Promises 1 to 13: each sentence that names a boundary case, on both sides of it. */
public final class BoundariesOfHousesTest {
    private static void says(String place, String sentence, String run) {
        Runs.says(place, sentence, run);
    }

    private static void made() {
        says("1", "As told; no HOUSES.", """
            count(0) = 0; count(1) = 0; count(2) = 0; count(3) = 0; count(4) = 0; count(5) = 0; count(6) = 0; count(7) = 1; street(0) = 0; street(1) = 0; street(2) = 0; street(3) = 0; street(4) = 0
            told(0, 0) = BAD; as(0, 0) = BAD; turns(0, 0) = BAD; set(0, 1, 1) = BAD; fells(0) = BAD; raises(0) = BAD; fine(0) = BAD; lay(0, 1, 0) = BAD; taken(0, 1) = BAD; behind(0, 3) = BAD
            days(1) = 0; lasts() = NONE; propped(1) = 0; wall(1, 0) = NONE; snows(1) = 20; began(0, 0, 0) = NOTHING; fee() = 0; why(0) = NONE; text() = FAULT 0; textTold(0, 0) = BAD; trim(0) = 0; back() = NO; check(1) = NO
            # nothing of one object is another one's
            9 * house(0, 1, 0, 0)
            text "fee 5"; sheet(0, 0, 1); lay(0, 3, 1); keep(); tell(1); feed(0, 0, 0); snow(5); seed(9)
            new
            count(0) = 0; count(3) = 0; count(4) = 0; count(5) = 0; count(6) = 0; count(7) = 1; fee() = 0; reads(0) = NOTHING; rest(0, 1) = NOTHING; back() = NO
            """);
        says("2", "One more HOUSE, behind the last one: its number. BAD; FULL.", """
            house(5, 99, 50, 99) = 0; house(6, 1, 0, 0) = BAD; house(0, 1, -50, 0) = 1; count(0) = 2; told(1, 2) = -50; told(0, 2) = 50
            7 * house(2, 3, 4, 5)
            count(0) = 9; told(8, 0) = 2; told(8, 1) = 3; told(8, 2) = 4; told(8, 3) = 5; house(0, 1, 0, 0) = FULL; house(0, 0, 0, 0) = BAD; count(0) = 9; told(8, 1) = 3
            # FALLEN ones take their room
            fells(0); fells(8); house(0, 1, 0, 0) = FULL; deal(1) = 0
            """);
    }

    private static void tellings() {
        says("3", "6 whether it STANDS (1, 0), 7 PUSHES, 8 BEARS, 9 THRUST, 10 WORTH. BAD.", """
            house(2, 10, -20, 30); house(0, 1, 1, 9); snow(5); set(0, 5, 2); told(0, 6) = 1; told(0, 7) = 24; told(0, 8) = 100; told(0, 9) = 5; told(0, 10) = 69; told(0, 11) = BAD; told(0, -1) = BAD; told(2, 6) = BAD; told(-1, 6) = BAD
            # one that is FALLEN pushes and bears by what it is, without PROPS, but no THRUST is on it
            fells(0); told(0, 6) = 0; told(0, 5) = 0; told(0, 7) = 24; told(0, 8) = 60; told(0, 9) = 0; told(0, 10) = 69; told(1, 9) = 5
            """);
        says("4", "BAD: house, kind; KIND: it is not of that KIND, nor of one under it", """
            house(3, 1, 0, 0); as(0, 0) = 0; as(0, 1) = 0; as(0, 3) = 0; as(0, 2) = KIND; as(0, 4) = KIND; as(0, 5) = KIND; as(0, 6) = BAD; as(0, -1) = BAD; as(1, 5) = BAD; as(-1, 5) = BAD; set(0, 3, 99); as(0, 0) = 99; fells(0); as(0, 3) = 99
            """);
        says("5", "A HOUSE is of another KIND from now on: what it was", """
            house(0, 1, 0, 0); turns(0, 5) = 0; turns(0, 4) = 5; turns(0, 4) = 4; turns(0, 0) = 4; turns(0, 6) = BAD; turns(0, -1) = BAD; turns(1, 0) = BAD; told(0, 0) = 0; fells(0); turns(0, 1) = 0; told(0, 0) = 1
            """);
    }

    private static void changes() {
        says("6", "WEIGHT, LEAN, WALL, CRACK, PROP (what 1 .. 5) of a HOUSE becomes v: what it was. BAD.", """
            house(5, 2, 3, 4); set(0, 1, 11) = 2; set(0, 2, 12) = 3; set(0, 3, 13) = 4; set(0, 4, 14) = 0; set(0, 5, 5) = 0
            told(0, 0) = 5; told(0, 1) = 11; told(0, 2) = 12; told(0, 3) = 13; told(0, 4) = 14; told(0, 5) = 5; told(0, 6) = 1
            set(0, 0, 1) = BAD; set(0, 6, 0) = BAD; set(0, 6, 1) = BAD; set(0, -1, 1) = BAD; set(0, 7, 1) = BAD; set(1, 1, 1) = BAD; set(-1, 1, 1) = BAD; told(0, 0) = 5; told(0, 6) = 1
            # CRACK of 100 and more makes it fall on a DAY, not yet
            set(0, 4, 100) = 14; told(0, 6) = 1; street(1) = 1; set(0, 4, 999) = 100; street(1) = 1
            # of one that is FALLEN
            fells(0); set(0, 1, 99) = 11; set(0, 5, 9) = 0; set(0, 4, 0) = 999; told(0, 6) = 0; street(3) = 9
            """);
        says("7", "A HOUSE is FALLEN (its PROPS are 0): how many STAND then. BAD; NO: it is FALLEN.", """
            9 * house(0, 1, 20, 0)
            set(4, 5, 9); fells(4) = 8; told(4, 5) = 0; street(3) = 0; fells(4) = NO; fells(8) = 7; fells(0) = 6; fells(9) = BAD; fells(-1) = BAD; fells(1) = 5; fells(2) = 4; fells(3) = 3; fells(5) = 2; fells(6) = 1; fells(7) = 0; fells(7) = NO
            # those that lean on it fall on no DAY for it
            new
            house(0, 1, 20, 9); house(0, 1, 0, 9); fells(1) = 1; days(100) = 0; street(1) = 1
            # LEAN and CRACK stay as they are
            set(0, 4, 50); fells(0) = 0; told(0, 4) = 50; told(0, 2) = 20
            """);
        says("8", "A HOUSE that is FALLEN STANDS again, with LEAN 0, CRACK 0: how many STAND then. BAD; NO: it STANDS.", """
            house(3, 7, 20, 9); house(0, 1, 0, 0); raises(0) = NO; raises(1) = NO; raises(2) = BAD; raises(-1) = BAD; set(0, 4, 999); days(1) = 1; raises(0) = 2; told(0, 2) = 0; told(0, 4) = 0; told(0, 5) = 0; told(0, 0) = 3; told(0, 1) = 7; told(0, 3) = 9; raises(0) = NO
            fells(0); fells(1) = 0; raises(1) = 1; raises(0) = 2; street(1) = 3
            # one that stands keeps its LEAN and CRACK
            set(0, 2, 5); set(0, 4, 6); raises(0) = NO; told(0, 2) = 5; told(0, 4) = 6
            """);
        says("9", "SNOW becomes v: what it was. BAD.", "snow(0) = 0; snow(20) = 0; snow(-20) = 20; snow(21) = BAD; snow(-21) = BAD; snow(0) = -20; count(3) = 0; snow(LOW) = BAD; snow(HIGH) = BAD; snow(0) = 0");
    }

    private static void lots() {
        says("10", "HOUSES are drawn, n (1 .. 9) of them, as many as there is room for (no draws for others): how many came. BAD.", """
            deal(0) = BAD; deal(-1) = BAD; deal(10) = BAD; deal(LOW) = BAD; deal(HIGH) = BAD; count(0) = 0; count(7) = 1
            deal(1) = 1; DRAWN told(0, 4) = 0; told(0, 5) = 0; told(0, 6) = 1
            deal(9) = 8; count(0) = 9
            deal(9) = 0; deal(1) = 0; deal(10) = BAD; deal(0) = BAD
            """.replace("DRAWN", drawn(1)));
        says("10", "(no draws for others)", """
            8 * house(5, 1, 0, 0)
            seed(77) = 1; deal(9) = 1; count(0) = 9;
            """ + drawn(77).replace("told(0", "told(8") + "deal(9) = 0; " + drawn(77).split(";")[0]);
        says("11", "z becomes v: what it was", "seed(0) = 1; seed(LOW) = 0; seed(HIGH) = LOW; seed(-1) = HIGH; count(7) = -1; seed(1) = -1; count(7) = 1");
    }

    /** What z is, and the first HOUSE, behind four draws: worked out in longs. */
    private static String drawn(long seed) {
        long[] z = new long[5];
        z[0] = seed;
        for (int i = 1; i <= 4; i++) z[i] = (z[i - 1] * 1103515245L + 12345) & 0xffffffffL;
        return "count(7) = " + (int) z[4] + "; told(0, 0) = " + z[1] / 256 % 6 + "; told(0, 1) = " + (z[2] / 256 % 60 + 1) + "; told(0, 2) = " + (z[3] / 256 % 41 - 20) + "; told(0, 3) = " + z[4] / 256 % 60 + ";";
    }

    private static void days() {
        says("12", "n (1 .. 100) DAYS (no more than up to 9999): how many are FALLEN in them. BAD.", """
            days(0) = BAD; days(-1) = BAD; days(101) = BAD; days(LOW) = BAD; days(HIGH) = BAD; count(2) = 0; days(1) = 0; count(2) = 1; days(100) = 0; count(2) = 101
            house(0, 1, 0, 0); snow(1); days(99) = 0; days(1) = 1; days(100) = 0; raises(0); days(100) = 1; raises(0); days(99) = 0; fells(0); days(100) = 0
            # those that fell ahead of them do not count, those on several DAYS all do
            new
            3 * house(0, 1, 0, 0)
            house(0, 1, 0, 2); fells(0); snow(2); set(2, 4, 50); set(1, 2, -10); days(25) = 1; days(100) = 1; street(1) = 8
            """);
        says("12", "(no more than up to 9999)", """
            99 * days(100)
            days(99) = 0; count(2) = 9999; house(0, 1, 0, 0); set(0, 4, 100); days(1) = 0; street(1) = 1; days(100) = 0; street(1) = 1; days(101) = BAD; days(0) = BAD
            new
            99 * days(100)
            days(98); house(0, 1, 0, 0); snow(1); set(0, 4, 98); days(100) = 0; told(0, 4) = 99; count(2) = 9999
            """);
        says("13", "What was 0 RENT, and 1 those that STAND, as a set, 2 CRACKS of all, 3 PROPS of all, together, 4 those that do not HOLD now (of those that STAND), as a set. BAD.", """
            street(-1) = BAD; street(5) = BAD; street(LOW) = BAD; street(HIGH) = BAD; street(0) = 0; street(1) = 0; street(2) = 0; street(3) = 0; street(4) = 0
            9 * house(0, 1, 0, 0)
            set(0, 4, 999); set(8, 4, 999); set(0, 5, 9); set(8, 5, 9); street(1) = 511; street(2) = 1998; street(3) = 18; street(4) = 0; snow(20); street(4) = 254; fells(1); street(1) = 509; street(4) = 252
            # of one that is FALLEN, CRACK counts, and PROPS that come to it then
            fells(8) = 7; street(2) = 1998; street(3) = 9; set(8, 5, 4); street(3) = 13; street(4) = 252; days(1) = 1; street(0) = 4
            """);
    }

    public static void main(String[] args) {
        made();
        tellings();
        changes();
        lots();
        days();
        Runs.end("the houses hold at their boundaries");
    }
}
