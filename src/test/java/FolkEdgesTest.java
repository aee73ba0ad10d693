/** Part II of the document and what its promises say at their boundaries: WELLS, BEDS, LOTS, PERSONS, TITLES, UNDER. */
final class FolkEdgesTest extends Check {
    public static void main(String[] args) {
        oneWell();
        wellsOfAllSizes();
        sweetBySalt();
        sweetByLens();
        bedsOfACell();
        lots();
        lotsOfAllSizes();
        freeBed();
        persons();
        personsOfAllKinds();
        goingAndStaying();
        sending();
        deadOnes();
        titlesHeld();
        passing();
        heirs();
        heirsByTheClock();
        standing();
        lasting();
        under();
        votes();
        conclude();
    }

    /** RINGS, each with one CELL far above a sea that moves nothing. */
    private static RingsUnder rings(int count) {
        RingsUnder x = new RingsUnder();
        for (int r = 0; r < count; r++) {
            x.ring();
            x.cell(r, 3000, 10, 10, 0, 0);
        }
        x.rules(0, 0, 0, 1, 0);
        return x;
    }

    private static void folk(RingsUnder x, int count) {
        for (int i = 0; i < count; i++) {
            x.person(0, 0, 0, 0, 0);
        }
    }

    private static void oneWell() {
        promise = "WELLS (one in a CELL at most)";
        RingsUnder x = rings(2);
        due("the first", x.well(0, 1, 0, 0), true);
        due("a second", x.well(0, 2, 5, 5), false);
        due("lens is the first's", x.cellOf(0, 7), 0);
        due("one elsewhere", x.well(1, 20, 10000, 100), true);
        x.back();
        due("an image without", x.ring(), 0);
        x.cell(0, 3000, 0, 0, 0, 0);
        due("lens of none", x.cellOf(0, 7), NONE);
        due("salt of none", x.cellOf(0, 8), NONE);
        due("again", x.well(0, 3, 7, 8), true);
        due("lens", x.cellOf(0, 7), 7);
        due("salt", x.cellOf(0, 8), 8);
    }

    private static void wellsOfAllSizes() {
        promise = "CATCH (1 .. 20), LENS (0 .. 10000), SALT (0 .. 100)";
        for (int gathers : new int[] {1, 20}) {
            RingsUnder x = rings(1);
            due("gathers " + gathers, x.well(0, gathers, 0, 100), true);
            x.months(1, 0);
            due("lens", x.cellOf(0, 7), 20 * gathers);
            due("salt", x.cellOf(0, 8), 99);
        }
        int[][] wrong = {{0, 5, 5}, {21, 5, 5}, {5, -1, 5}, {5, 10001, 5}, {5, 5, -1}, {5, 5, 101}};
        RingsUnder x = rings(1);
        for (int[] w : wrong) {
            due("well " + w[0] + " " + w[1] + " " + w[2], x.well(0, w[0], w[1], w[2]), false);
            due("none came", x.cellOf(0, 7), NONE);
        }
        due("the greatest", x.well(0, 20, 10000, 100), true);
        x.table(0, 0, 500, 0, 0, 100);
        x.months(1, 0);
        due("10000 at most", x.cellOf(0, 7), 10000);
    }

    private static void sweetBySalt() {
        promise = "SWEET: SALT 20 at most";
        int[][] rows = {{20, 0}, {21, 0}, {22, 1}};
        for (int[] r : rows) {
            RingsUnder x = rings(1);
            x.well(0, 1, 100, r[0]);
            folk(x, 1);
            x.months(1, 0);
            due("thirst by salt " + r[0] + ", of which one goes first", x.personOf(0, 5), r[1]);
            due("lens", x.cellOf(0, 7), 110 + 10 * r[1]);
        }
        RingsUnder y = rings(1);
        y.cell(0, -500, 0, 0, 0, 0);
        y.well(1, 1, 100, 10);
        folk(y, 1);
        y.months(1, 0);
        due("20 under water is sweet", y.personOf(0, 5), 0);
        y.months(1, 0);
        due("30 isn't", y.personOf(0, 5), 1);
    }

    private static void sweetByLens() {
        promise = "SWEET: LENS 10 or more";
        for (int lens : new int[] {0, 9, 10, 19, 20}) {
            RingsUnder x = rings(1);
            x.table(0, 0, 500, 0, 0, 0);
            x.well(0, 1, lens, 0);
            folk(x, 3);
            x.months(1, 0);
            due("thirst by lens " + lens, x.about(15), 3 - lens / 10);
            due("what is left", x.cellOf(0, 7), lens % 10);
        }
    }

    private static void bedsOfACell() {
        promise = "BEDS come so many more to a CELL (0 .. 20 together): how many it has";
        RingsUnder x = rings(2);
        due("none", x.beds(0, 0), 0);
        due("twenty at once", x.beds(0, 20), 20);
        due("one more", x.beds(0, 1), NONE);
        due("none more", x.beds(0, 0), 20);
        due("21 at once", x.beds(1, 21), NONE);
        due("none came", x.cellOf(1, 6), 0);
        for (int i = 1; i <= 20; i++) {
            due("one by one", x.beds(1, 1), i);
        }
        due("one more", x.beds(1, 1), NONE);
        due("round the numbers", x.beds(1, BIG), NONE);
        due("round the numbers", x.beds(1, SMALL), NONE);
        due("twenty", x.cellOf(1, 6), 20);
    }

    private static void lots() {
        promise = "LOTS 0 .. 4";
        RingsUnder x = rings(1);
        folk(x, 6);
        due("no lot yet", x.go(0, 100), false);
        due("at none", x.at(100), NONE);
        for (int l = 0; l < 5; l++) {
            due("lot", x.lot(60), l);
            due("go", x.go(l, 100 + l), true);
            due("at", x.at(100 + l), 1);
            due("no next", x.go(l, 101 + l), false);
            due("at the next", x.at(101 + l), NONE);
        }
        due("a sixth", x.lot(60), NONE);
        due("five", x.about(4), 5);
        due("into the sixth", x.go(5, 105), false);
    }

    private static void lotsOfAllSizes() {
        promise = "LOTS 0 .. 4, each with BEDS (0 .. 60)";
        RingsUnder x = rings(1);
        due("below", x.lot(-1), NONE);
        due("above", x.lot(61), NONE);
        due("none", x.lot(0), 0);
        due("sixty", x.lot(60), 1);
        folk(x, 40);
        due("into none", x.go(0, 100), false);
        for (int p = 0; p < 40; p++) {
            due("into sixty", x.go(p, 101), true);
        }
        due("forty", x.at(101), 40);
    }

    private static void freeBed() {
        promise = "MOVED by itself: a LOT with a free BED; false: it is there, or no free BED";
        RingsUnder x = rings(1);
        x.lot(2);
        folk(x, 4);
        due("first", x.go(0, 100), true);
        due("it is there", x.go(0, 100), false);
        due("second", x.go(1, 100), true);
        due("third", x.go(2, 100), false);
        due("where it was", x.personOf(2, 0), 0);
        x.death(0);
        due("a dead one's is free", x.go(2, 100), true);
        due("full again", x.go(3, 100), false);
        due("it is there, and full", x.go(1, 100), false);
        due("home", x.go(1, 0), true);
        due("and back", x.go(1, 100), true);
    }

    private static void persons() {
        promise = "PERSONS 0 .. 39";
        RingsUnder x = rings(1);
        for (int p = 0; p < 40; p++) {
            due("person", x.person(p % 10, p, p % 8, 0, p), p);
        }
        due("the 41st", x.person(0, 0, 0, 0, 0), NONE);
        due("forty", x.about(5), 40);
        due("the last", x.personOf(39, 1) * 1000 + x.personOf(39, 2), 9039);
        due("behind the last", x.personOf(40, 1), NONE);
        due("the last goes", x.go(39, 200), true);
        x.death(0);
        due("for a dead one comes none", x.person(0, 0, 0, 0, 0), NONE);
        x.months(1, 0);
        due("thirst of 38", x.about(15), 38);
    }

    private static void personsOfAllKinds() {
        promise = "KIN 0 .. 9, AGE (0 .. 99, as told), CRAFT 0 .. 7, SEND (0 .. 100)";
        RingsUnder x = rings(5);
        due("least", x.person(0, 0, 0, 0, 0), 0);
        due("greatest", x.person(9, 99, 7, 4, 100), 1);
        for (int i = 0; i < 3; i++) {
            x.months(60, 0);
        }
        int[] least = {0, 0, 0, 0, 0};
        int[] greatest = {4, 9, 99, 7, 100};
        for (int what = 0; what < 5; what++) {
            due("least " + what, x.personOf(0, what), least[what]);
            due("greatest " + what, x.personOf(1, what), greatest[what]);
        }
        due("one comes when months are over", x.person(3, 3, 3, 3, 3), 2);
        due("without thirst", x.personOf(2, 5) + x.personOf(2, 6), 0);
        due("it never went", x.personOf(2, 7), NONE);
    }

    private static void goingAndStaying() {
        promise = "MOVED by itself (to 0 .. 4, 100 .., 200): it is there";
        RingsUnder x = rings(2);
        folk(x, 1);
        due("it is on its ring", x.go(0, 0), false);
        due("the other", x.go(0, 1), true);
        due("it is there", x.go(0, 1), false);
        due("abroad", x.go(0, 200), true);
        due("it is abroad", x.go(0, 200), false);
        due("to the dead", x.go(0, 300), false);
        due("home from abroad", x.go(0, 0), true);
        due("not by boats", x.personOf(0, 7), NONE);
    }

    private static void sending() {
        promise = "SEND (0 .. 100, what it sends a MONTH as it is ABROAD)";
        RingsUnder x = rings(1);
        x.force(read(x, "leave 0;"), 0, 599);
        x.lot(1);
        x.person(0, 0, 0, 0, 0);
        x.person(0, 0, 0, 0, 100);
        x.person(0, 0, 0, 0, 50);
        x.person(0, 0, 0, 0, 25);
        x.person(0, 0, 0, 0, 12);
        x.go(0, 200);
        x.go(1, 200);
        x.go(2, 100);
        x.go(4, 200);
        x.death(4);
        x.months(1, 0);
        due("a hundred, of one alone", x.about(8), 100);
        x.go(1, 0);
        x.months(1, 0);
        due("nothing from home", x.about(8), 100);
    }

    private static void deadOnes() {
        promise = "DEAD from then on";
        RingsUnder x = rings(1);
        x.lot(5);
        x.person(0, 30, 0, 0, 9);
        x.person(0, 40, 0, 0, 9);
        x.title(0, 0);
        x.sail(40, 0);
        due("death", x.death(0), 1);
        due("again", x.death(0), NONE);
        due("place", x.personOf(0, 0), 300);
        due("age", x.personOf(0, 2), 30);
        due("it doesn't go", x.go(0, 0), false);
        due("it holds nothing", x.title(0, 0), false);
        due("it is somebody", x.is(0, 0, 0), 1);
        due("it may be chosen for", x.choose(0, 1), true);
        due("but has no say", x.council(1), 2);
        x.months(1, 0);
        due("no thirst, no bed", x.personOf(0, 5) + x.personOf(0, 6), 0);
        due("no boat", x.personOf(0, 7), NONE);
        due("among the dead", x.at(300), 1);
        due("in the lot", x.at(100), 1);
    }

    private static void titlesHeld() {
        promise = "A TITLE of a CELL is held by a PERSON (NONE: nobody), whoever did";
        RingsUnder x = rings(2);
        folk(x, 2);
        due("by nobody at first", x.titleOf(0, 0), NONE);
        due("by nobody again", x.title(0, NONE), true);
        due("by one", x.title(0, 1), true);
        due("by it again", x.title(0, 1), true);
        due("by the other", x.title(0, 0), true);
        due("of both cells", x.title(1, 0), true);
        due("by nobody", x.title(0, NONE), true);
        due("nobody", x.titleOf(0, 0), NONE);
        due("the other cell's", x.titleOf(1, 0), 0);
        due("one title", x.death(0), 1);
    }

    private static void passing() {
        promise = "DEATH: how many TITLES it held; to nobody without";
        RingsUnder x = rings(1);
        for (int c = 1; c < 40; c++) {
            x.cell(0, 3000, c % 32, 0, 0, 0);
        }
        x.person(0, 0, 0, 0, 0);
        x.person(1, 0, 0, 0, 0);
        x.person(0, 0, 0, 0, 0);
        for (int c = 0; c < 40; c++) {
            x.title(c, 0);
        }
        due("none of another kin", x.death(1), 0);
        due("forty", x.death(0), 40);
        due("the first", x.titleOf(0, 0), 2);
        due("the last", x.titleOf(39, 0), 2);
        due("forty again", x.death(2), 40);
        due("the first", x.titleOf(0, 0), NONE);
        due("the last", x.titleOf(39, 0), NONE);
        due("nobody's doesn't stand", x.titleOf(0, 1), 0);
        RingsUnder y = rings(1);
        for (int p = 0; p < 40; p++) {
            y.person(p == 39 ? 3 : 2, 0, 0, 0, 0);
        }
        y.title(0, 39);
        due("one of forty, without kin", y.death(39), 1);
        due("nobody", y.titleOf(0, 0), NONE);
        y.title(0, 0);
        enact(y, "heir -age;");
        for (int p = 0; p < 39; p++) {
            due("from one to the next", y.death(p), 1);
            due("the next", y.titleOf(0, 0), p < 38 ? p + 1 : NONE);
        }
    }

    private static void heirs() {
        promise = "to the first by heir (of the clock's MONTH) of its KIN who isn't DEAD";
        int[][] persons = {{5, 50, 3}, {5, 20, 1}, {4, 99, 0}, {5, 20, 0}, {5, 70, 3}};
        String[] laws = {"", "heir age;", "heir -age;", "heir age,craft;", "heir craft,-age;", "heir -craft;", "heir month,under;",
            "heir -craft,age;", "heir -kin,-place,-craft,-age;"};
        int[] due = {1, 1, 4, 3, 3, 4, 1, 4, 4};
        for (int i = 0; i < laws.length; i++) {
            RingsUnder x = rings(1);
            for (int[] p : persons) {
                x.person(p[0], p[1], p[2], 0, 0);
            }
            enact(x, laws[i]);
            x.title(0, 0);
            x.death(0);
            due(laws[i], x.titleOf(0, 0), due[i]);
        }
        RingsUnder y = rings(2);
        y.lot(1);
        for (int[] p : persons) {
            y.person(p[0], p[1], p[2], 0, 0);
        }
        y.go(1, 100);
        y.go(3, 200);
        y.go(4, 1);
        y.title(0, 0);
        enact(y, "heir -place;");
        y.death(0);
        due("abroad is farthest", y.titleOf(0, 0), 3);
        y.death(3);
        due("a lot", y.titleOf(0, 0), 1);
        y.death(1);
        due("another ring", y.titleOf(0, 0), 4);
    }

    private static void heirsByTheClock() {
        promise = "heir (of the clock's MONTH)";
        for (int month = 0; month < 4; month++) {
            RingsUnder x = rings(1);
            x.person(0, 9, 0, 0, 0);
            x.person(0, 30, 0, 0, 0);
            x.person(0, 40, 0, 0, 0);
            x.title(0, 0);
            x.force(read(x, "heir -age;"), 1, 2);
            if (month > 0) {
                x.months(month, 0);
            }
            x.death(0);
            due("in month " + month, x.titleOf(0, 0), month == 1 || month == 2 ? 2 : 1);
        }
    }

    private static void standing() {
        promise = "A TITLE STANDS, if its CELL was DRY in the latest MONTH (or none is over)";
        RingsUnder x = new RingsUnder();
        x.ring();
        x.cell(0, -500, 0, 0, 0, 0);
        folk(x, 1);
        x.title(0, 0);
        due("none is over", x.titleOf(0, 1), 1);
        x.months(1, 0);
        due("under water", x.titleOf(0, 1), 0);
        x.level(0, 1, true, -1000);
        x.wall(0, 1);
        due("a wall doesn't make it dry yet", x.titleOf(0, 1), 0);
        x.months(1, 0);
        due("dry", x.titleOf(0, 1), 1);
        x.wall(0, 0);
        due("dry in the latest month still", x.titleOf(0, 1), 1);
        x.title(0, NONE);
        due("nobody holds it", x.titleOf(0, 1), 0);
        due("who", x.titleOf(0, 0), NONE);
    }

    private static void lasting() {
        promise = "lasts: without such a TEXT not so; its holder's NAMES, and UNDER of the CELL";
        RingsUnder x = new RingsUnder();
        x.ring();
        x.cell(0, -500, 0, 0, 0, 0);
        x.cell(0, -500, 0, 0, 0, 0);
        x.person(7, 11, 3, 0, 0);
        x.title(0, 0);
        x.force(read(x, "people 1=1;"), 0, 599);
        x.force(read(x, "lasts age=11 and kin=7 and craft=3 and place=0 and under=month;"), 1, 2);
        x.force(read(x, "lasts under=99;lasts under=3;"), 3, 3);
        int[] due = {1, 1, 1, 1, 0};
        for (int month = 0; month < due.length; month++) {
            due("in month " + month, x.titleOf(0, 1), due[month]);
            due("nobody's in month " + month, x.titleOf(1, 1), 0);
            x.months(1, 0);
        }
    }

    private static void under() {
        promise = "UNDER: how many MONTHS up to the latest one it wasn't DRY, one behind the other";
        RingsUnder x = new RingsUnder();
        x.ring();
        x.cell(0, 0, 0, 0, 0, 0);
        x.rules(0, 0, 0, 1, 0);
        int[] levels = {0, 0, -501, -500, 0, -1000, -1000, -500};
        int[] due = {1, 2, 0, 1, 2, 0, 0, 1};
        due("at first", x.cellOf(0, 9), 0);
        for (int m = 0; m < levels.length; m++) {
            x.level(0, m, true, levels[m]);
            x.months(1, 0);
            due("behind month " + m, x.cellOf(0, 9), due[m]);
        }
    }

    private static void votes() {
        promise = "VOTES (1, 0, or none)";
        RingsUnder x = rings(1);
        folk(x, 3);
        due("none at first", x.council(7), 0);
        int[][] rows = {{1, 1, 1}, {0, 0, 0}, {1, 0, 0}, {NONE, NONE, 0}, {1, NONE, 1}, {0, 1, 0}};
        for (int[] r : rows) {
            due("choose", x.choose(0, r[0]), true);
            due("choose", x.choose(1, r[1]), true);
            due("votes " + r[0] + " and " + r[1], x.council(7), r[2]);
        }
        due("2", x.choose(0, 2), false);
        due("-2", x.choose(0, -2), false);
        due("still", x.council(7), 0);
    }
}
