/** Head 3 of the document, and promises 14 to 20: each sentence that names a boundary case, on both sides of it. */
public final class BoundariesOfThoughtsTest {
    private static void says(String place, String sentence, String run) {
        Runs.says(place, sentence, run);
    }

    private static void behind() {
        says("14", "BEHIND n (0 .. 100) DAYS", """
            house(0, 1, 0, 0); snow(1); set(0, 5, 1); snow(11)
            behind(0, 0) = 1; behind(0, 1) = 0; behind(0, 2) = 0; behind(0, 3) = 0; behind(-1, 0) = BAD; behind(LOW, 0) = BAD
            behind(1, 1) = 1; behind(1, 2) = 1; behind(1, 3) = 1
            behind(99, 0) = 1; behind(99, 1) = 99; behind(99, 2) = 99; behind(100, 0) = 0; behind(100, 1) = 100; behind(100, 2) = 99
            behind(101, 0) = BAD; behind(HIGH, 0) = BAD
            """);
        says("14", "3 and k: LEAN of HOUSE k. BAD.", """
            behind(1, 2) = 0; behind(1, 3) = BAD
            house(0, 1, -50, 0); behind(0, 3) = -50; behind(1, 4) = BAD
            8 * house(0, 1, 50, 0)
            behind(0, 11) = 50; behind(0, 12) = BAD; behind(0, -1) = BAD; behind(0, LOW) = BAD; behind(0, HIGH) = BAD
            """);
        says("3", "(without the bound of THE DAY)", """
            99 * days(100)
            days(98); house(0, 1, 0, 0); set(0, 5, 1); snow(11)
            # THE DAY is 9998: one more comes, but as many more are thought as are asked for
            behind(1, 1) = 1; behind(2, 1) = 2; behind(100, 1) = 100; behind(99, 2) = 99; behind(100, 0) = 0
            days(100) = 0; told(0, 4) = 1; count(2) = 9999
            # and at 9999 none comes
            days(100) = 0; told(0, 4) = 1; street(0) = 1
            behind(1, 1) = 2; behind(98, 0) = 1; behind(99, 0) = 0; lasts() = 99
            set(0, 4, 60); propped(39) = 0; propped(40) = 1
            set(0, 5, 0); snow(1); set(0, 3, 1); set(0, 4, 40)
            wall(59, 1) = 0; wall(60, 1) = 1; snows(60) = 1; snows(59) = 2
            sheet(0, 0, 1); mark(0, 0, 70); began(0, 30, 1) = 0; began(0, 29, 1) = 1
            new
            100 * days(100)
            count(2) = 9999; house(0, 10, 10, 99); house(0, 1, 0, 99); house(0, 1, 0, 9); set(2, 4, 40)
            taken(1, 60) = 4; taken(1, 59) = 0
            """);
    }

    /** Those of lastsLongest in PromisesTest, where it is told why the first fall comes on day 313. */
    private static void lasts() {
        says("3", "LASTS: behind how many DAYS (1 .. 300) one is FALLEN that STANDS now first", """
            lasts() = NONE
            house(0, 1, 0, 0); lasts() = NONE; snow(1); lasts() = 100; set(0, 4, 98); lasts() = 2; set(0, 4, 99); lasts() = 1
            set(0, 4, 100); lasts() = 1; snow(0); lasts() = 1
            # one that is FALLEN now is none that falls
            fells(0); lasts() = NONE
            house(0, 1, 0, 0); snow(1); lasts() = 100
            # the first of several
            house(5, 1, 0, 0); house(0, 1, 0, 0); set(3, 4, 50); lasts() = 50; set(1, 4, 60); lasts() = 40
            """);
        says("15", "NONE: not by then", """
            house(3, 1, 50, 24); house(0, 30, 1, 84); house(0, 51, -50, 49); house(0, 10, -50, 19); house(0, 10, 1, 84); house(0, 51, -50, 29)
            snow(20); text "push (c<97|c>98)*(w+(c>0)*14+(l>19)*6+(w>50&c>46)*40)" = 0
            days(12) = 0; lasts() = NONE; days(1) = 0; lasts() = 300; days(1) = 0; lasts() = 299
            """);
    }

    private static void taken() {
        String street = "house(0, 10, 10, 99); house(0, 1, 0, 99); house(0, 1, 0, 9);";
        says("16", "TAKEN OUT of a HOUSE, for n (1 .. 60)", street + """
            set(2, 4, 40); taken(1, 59) = 0; taken(1, 60) = 4; taken(1, 61) = BAD; taken(1, HIGH) = BAD
            set(2, 4, 39); taken(1, 60) = 0
            set(2, 4, 99); taken(1, 1) = 4; taken(1, 0) = BAD; taken(1, -1) = BAD; taken(1, LOW) = BAD
            taken(0, 60) = 0; taken(2, 60) = 0; taken(3, 60) = BAD; taken(-1, 60) = BAD
            """);
        says("3", "those that STAND now, but not behind n DAYS, if it were FALLEN now", street + """
            house(0, 1, 0, 9); set(2, 4, 99)
            taken(1, 1) = 4
            # one that is FALLEN now is not among them, and is passed over
            fells(2); taken(1, 1) = 0; set(3, 4, 99); taken(1, 1) = 8
            """);
        says("3", "but STAND behind n DAYS as it is", street + """
            set(2, 4, 99); taken(1, 1) = 4; snow(-1); taken(1, 1) = 0
            # with SNOW 10 it falls on this DAY with HOUSE 1 or without it
            snow(10); taken(1, 1) = 0; set(2, 3, 10); taken(1, 1) = 4
            """);
        says("3", "(itself left out)", """
            house(0, 10, 10, 99); taken(0, 1) = 0
            house(5, 1, 0, 0); house(5, 1, 0, 0); taken(1, 60) = 0; taken(2, 60) = 0
            """);
        says("16", "NO: it is FALLEN", """
            house(0, 1, 0, 0); taken(0, 1) = 0; fells(0); taken(0, 1) = NO; raises(0); taken(0, 1) = 0
            """);
    }

    private static void propped() {
        says("17", "PROPPED for n (1 .. 40)", """
            propped(1) = 0; propped(40) = 0; propped(0) = BAD; propped(41) = BAD; propped(LOW) = BAD; propped(HIGH) = BAD
            house(0, 1, 0, 0); snow(1); set(0, 4, 60); propped(39) = 0; propped(40) = 1; set(0, 4, 59); propped(40) = 0
            set(0, 4, 99); propped(1) = 1; propped(0) = BAD
            """);
        says("3", "the fewest PROPS more, on one HOUSE alone (9 at most on it)", """
            # with 9 PROPS it cracks by 10 a DAY, with 8 by 20
            house(0, 50, 20, 99); house(0, 1, 0, 0); propped(1) = 11; propped(4) = 18; propped(5) = 19; propped(9) = 19; propped(10) = NONE
            set(1, 5, 1); propped(9) = 18; set(1, 5, 8); propped(9) = 11; propped(10) = NONE
            set(1, 5, 9); propped(9) = 0; propped(10) = NONE
            # two that fall, each by itself
            new
            house(0, 1, 0, 0); house(5, 1, 0, 0); house(0, 1, 0, 0); snow(1); set(0, 4, 99); set(2, 4, 99); propped(1) = NONE
            set(2, 4, 98); propped(1) = 1; propped(2) = NONE; set(0, 4, 97); propped(1) = 0; propped(2) = 21; propped(3) = NONE
            """);
        says("3", "with which all that STAND now STAND behind n DAYS", """
            house(0, 1, 0, 0); set(0, 4, 100); propped(1) = NONE
            # one that is FALLEN now is none of them
            fells(0); propped(1) = 0
            house(0, 1, 0, 0); set(1, 4, 99); snow(20); propped(1) = 12; snow(10); propped(1) = 11
            """);
        says("3", "10 times that HOUSE, and how many (0 if none are needed)", """
            8 * house(5, 1, 0, 0)
            house(0, 1, 0, 0); set(8, 4, 99); propped(40) = 0; snow(1); propped(40) = 81; snow(20); propped(40) = 82
            new
            house(0, 1, 0, 0); set(0, 4, 99); propped(40) = 0; snow(1); propped(40) = 1; snow(11); propped(40) = 2
            """);
        says("3", "of several the HOUSE with the fewest more, of several the least", """
            # HOUSE 0 pushes 20 from the DAY behind its first CRACK on: no CRACK wants 2 PROPS there, or HOUSE 1 bears it
            house(0, 1, 1, 0); house(0, 1, 0, 25); snow(15); text "push 20*(c>0)"; set(1, 4, 99)
            propped(1) = 0; propped(2) = 11; set(1, 3, 15); propped(2) = 2; set(1, 3, 24); propped(2) = 2; set(0, 3, 5); propped(2) = 1
            """);
    }

    private static void proppedByNone() {
        says("17", "NONE: no PROPS on one HOUSE are enough", """
            # it wants 9 PROPS and has none, then 10 and has none, then 1 and has 8, then 1 and has 9
            house(0, 1, 0, 0); house(0, 1, 0, 0); house(0, 2, -50, 99); set(1, 4, 99); snow(-20); text "push 70"; propped(1) = 19
            text "push 71"; propped(1) = NONE; text "push 70"; set(1, 5, 8); propped(1) = 11; text "push 71"; set(1, 5, 9); propped(1) = NONE; set(1, 3, 1); propped(1) = 0
            # one that is FALLEN is propped up by none, and needs none
            fells(1); propped(1) = 0; set(0, 4, 100); propped(1) = NONE; set(1, 5, 9); propped(1) = NONE
            """);
    }

    private static void wall() {
        says("18", "WALL for n (1 .. 60)", """
            house(0, 1, 0, 5); snow(1); set(0, 4, 40); wall(59, 1) = 0; wall(60, 1) = 1; wall(61, 1) = BAD; wall(HIGH, 1) = BAD
            set(0, 4, 39); wall(60, 1) = 0; set(0, 4, 99); wall(1, 1) = 1; wall(0, 1) = BAD; wall(LOW, 0) = BAD
            wall(1, 0) = 0; wall(1, -1) = BAD; wall(1, 2) = BAD; wall(1, LOW) = BAD; wall(1, HIGH) = BAD
            """);
        says("18", "NONE: there are no HOUSES", """
            wall(1, 0) = NONE; wall(60, 1) = NONE; house(0, 1, 0, 0); wall(1, 0) = 0; wall(60, 1) = 0
            # HOUSES that are all FALLEN are HOUSES
            fells(0); wall(1, 0) = 0; wall(1, 1) = 1
            """);
        says("3", "the HOUSE with whose WALL 0 most are FALLEN behind n DAYS; of several the least", """
            house(0, 1, 0, 5); house(0, 1, 0, 5); house(0, 1, 0, 5); snow(1); wall(1, 0) = 0; wall(1, 1) = 0
            set(2, 4, 99); wall(1, 0) = 2; wall(1, 1) = 1; set(1, 4, 99); wall(1, 0) = 1; wall(1, 1) = 1; set(0, 4, 99); wall(1, 0) = 0
            # more than one with the last
            set(1, 2, 20); wall(1, 0) = 2; wall(1, 1) = 2
            """);
    }

    private static void snows() {
        says("19", "SNOWS for n (1 .. 60)", """
            house(0, 1, 0, 19); set(0, 4, 40); snows(59) = 20; snows(60) = 19; snows(61) = BAD; snows(HIGH) = BAD
            set(0, 4, 39); snows(60) = 20; set(0, 4, 99); snows(1) = 19; snows(0) = BAD; snows(-1) = BAD; snows(LOW) = BAD
            """);
        says("3", "the greatest SNOW 0 .. 20 with which all that STAND now STAND behind n DAYS", """
            snows(1) = 20
            house(0, 1, 0, 20); set(0, 4, 99); snows(60) = 20; set(0, 3, 19); snows(60) = 19; set(0, 3, 1); snows(60) = 1; set(0, 3, 0); snows(60) = 0
            # one that is FALLEN now is none of them
            house(0, 1, 0, 7); set(1, 4, 99); fells(0); snows(60) = 7
            # one that stands with great ones alone
            new
            house(0, 1, 0, 5); house(0, 10, -10, 99); set(0, 4, 99); snows(1) = 15; snow(4); behind(1, 0) = 2; snow(5); behind(1, 0) = 3
            snow(15); behind(1, 0) = 3; snow(16); behind(1, 0) = 2
            """);
        says("19", "NONE: none of them", """
            house(5, 1, 0, 0); set(0, 4, 99); snows(60) = 20; set(0, 4, 100); snows(1) = NONE
            # one that stands with SNOW below 0 alone
            new
            house(0, 10, 10, 99); house(0, 1, 0, 9); set(1, 4, 99); snow(-1); behind(1, 0) = 3; snow(0); behind(1, 0) = 1; snow(-1); snows(1) = NONE
            set(1, 3, 10); snows(1) = 0
            """);
    }

    private static void began() {
        says("20", "BEGAN by a SHEET, for n (0 .. 60)", """
            house(0, 1, 0, 5); snow(1); sheet(0, 0, 1); mark(0, 0, 60)
            began(0, 60, 1) = 0; began(0, 59, 1) = 1; began(0, 61, 1) = BAD; began(0, HIGH, 1) = BAD
            began(0, 0, 1) = 60; began(0, 1, 1) = 59; began(0, -1, 1) = BAD; began(0, LOW, 0) = BAD
            began(0, 0, 0) = 0; began(0, 0, -1) = BAD; began(0, 0, 2) = BAD; began(0, 0, HIGH) = BAD
            began(-1, 0, 0) = BAD; began(4, 0, 0) = BAD; began(LOW, 0, 0) = BAD; began(3, 0, 0) = NOTHING; sheet(3, 1, 0) = 0; began(3, 0, 1) = 0
            """);
        says("20", "NOTHING; NONE: there are no HOUSES", """
            began(0, 0, 0) = NOTHING; sheet(0, 1, 24); began(0, 0, 0) = NONE; began(0, 60, 1) = NONE
            house(0, 1, 0, 0); began(0, 0, 0) = 0; fells(0); began(0, 60, 0) = 0; sheet(0, -1, 0); began(0, 60, 1) = NOTHING
            """);
        says("3", "CRACKS of HOUSES k behind n DAYS and places k that are numbers differ least (signs left out", """
            house(0, 1, 0, 5); house(0, 1, 0, 5); snow(1); sheet(0, 1, 2)
            # by 1 a DAY on the one that began it
            began(0, 3, 0) = 0; began(0, 3, 1) = 3
            mark(0, 1, 3); began(0, 3, 0) = 1; began(0, 3, 1) = 0; mark(0, 1, 4); began(0, 3, 1) = 1; mark(0, 1, 2); began(0, 3, 1) = 1
            mark(0, 1, -1); began(0, 3, 0) = 0; began(0, 3, 1) = 4
            mark(0, 1, NONE); began(0, 3, 0) = 1; began(0, 3, 1) = 0; mark(0, 0, 1); began(0, 3, 1) = 1; began(0, 3, 0) = 1
            mark(0, 0, 2); began(0, 3, 1) = 1; began(0, 3, 0) = 0
            mark(0, 0, NONE); began(0, 3, 1) = 0; began(0, 3, 0) = 0
            # fewer places than HOUSES: the others are not looked at
            sheet(0, 0, 1); began(0, 3, 0) = 1; began(0, 3, 1) = 0; sheet(0, 0, 0); began(0, 3, 0) = 0; began(0, 3, 1) = 0
            """);
        says("3", "places beyond all HOUSES: 0", """
            house(0, 1, 0, 5); sheet(0, 1, 24); began(0, 0, 1) = 0
            mark(0, 1, 99999); began(0, 0, 1) = 99999; mark(0, 1, -99999); began(0, 0, 1) = 99999; mark(0, 1, NONE); began(0, 0, 1) = 0
            mark(0, 23, 7); began(0, 0, 1) = 7; mark(0, 8, -7); began(0, 0, 1) = 14; mark(0, 9, 1); began(0, 0, 1) = 15
            # as soon as there is a HOUSE, its CRACK counts
            8 * house(0, 1, 0, 5)
            set(8, 4, 3); began(0, 0, 1) = 18
            """);
        says("3", "together; of several the least", """
            9 * house(0, 1, 0, 5)
            snow(1); sheet(0, 0, 9); began(0, 9, 0) = 0; began(0, 9, 1) = 9; mark(0, 8, 9); began(0, 9, 0) = 8; began(0, 9, 1) = 0
            mark(0, 7, 9); began(0, 9, 0) = 7; began(0, 9, 1) = 9
            """);
    }

    public static void main(String[] args) {
        behind();
        lasts();
        taken();
        propped();
        proppedByNone();
        wall();
        snows();
        began();
        Runs.end("the thoughts hold at their boundaries");
    }
}
