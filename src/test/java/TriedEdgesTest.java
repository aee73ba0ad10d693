/** Part V of the document, sentence by sentence where one names a boundary: TRIED MONTHS, THE ORDER, GRAVES, THE IMAGE. */
final class TriedEdgesTest extends Check {
    public static void main(String[] args) {
        howManyMonths();
        beyondTheLast();
        firstMonthNotDry();
        sinksAsTried();
        cantAsTried();
        fundNow();
        keepsOfItsOwn();
        keepsFromOthers();
        noWall();
        orderOfNobody();
        orderOfLikeOnes();
        orderOfAllRings();
        orderOfTheseMonths();
        orderTurnedRound();
        orderOfLittleWater();
        orderOfBedsGivenUp();
        orderOfForty();
        orderOfMostLacks();
        orderInsteadOfOrder();
        orderByNumbersThen();
        whichRing();
        graves();
        moved();
        found();
        atAnyTime();
        newImage();
        imageStays();
        back();
        backBehindAndAhead();
        backToThirst();
        backToTides();
        about();
        conclude();
    }

    /** RINGS, each with one CELL far above a sea that moves nothing and leaves nothing. */
    private static RingsUnder rings(int count) {
        RingsUnder x = new RingsUnder();
        for (int r = 0; r < count; r++) {
            x.ring();
            x.cell(r, 3000, 10, 10, 0, 0);
        }
        x.rules(0, 0, 0, 1, 0);
        return x;
    }

    private static String order(RingsUnder x, int rise, int n, int rings) {
        StringBuilder s = new StringBuilder();
        for (int i = 0; i < rings; i++) {
            s.append(x.order(rise, n, i));
        }
        return s.append(": ").append(x.order(rise, n, NONE)).toString();
    }

    private static void howManyMonths() {
        promise = "TRIED under a RISE for n MONTHS (1 .. 60); THE ORDER of RINGS (1 .. 12 MONTHS)";
        RingsUnder x = rings(1);
        x.cell(0, -500, 0, 0, 0, 0);
        x.wall(0, 1);
        x.rules(0, 0, 0, 1, 100);
        for (int n : new int[] {SMALL, -1, 0, 61, 600, BIG}) {
            due("sinks in " + n, x.sinks(1, 0, n), NONE);
            due("can't in " + n, x.cant(0, n), NONE);
            due("keeps in " + n, x.keeps(0, 0, 0, n), NO_LEVEL);
        }
        for (int n : new int[] {1, 60}) {
            due("sinks in " + n, x.sinks(1, 0, n), 0);
            due("can't in " + n, x.cant(0, n), 0);
            due("keeps in " + n, x.keeps(0, 0, 0, n), 0);
        }
        for (int n : new int[] {SMALL, -1, 0, 13, 60, BIG}) {
            due("order of " + n, x.order(0, n, NONE), NONE);
            due("order of " + n, x.order(0, n, 0), NONE);
        }
        for (int n : new int[] {1, 12}) {
            due("order of " + n, x.order(0, n, NONE), 0);
            due("order of " + n, x.order(0, n, 0), 0);
        }
    }

    private static void beyondTheLast() {
        promise = "TRIED, as if they went by now: not beyond the last MONTH";
        RingsUnder x = rings(1);
        x.cell(0, -500, 0, 0, 0, 0);
        x.wall(0, 1);
        x.rules(0, 0, 0, 1, 100);
        for (int i = 0; i < 9; i++) {
            x.months(60, 0);
        }
        due("sixty are left", x.sinks(1, 0, 60), 540);
        due("can't", x.cant(0, 60), 540);
        due("keeps", x.keeps(0, 0, 0, 60), 0);
        x.months(48, 0);
        due("13 of twelve", x.sinks(1, 0, 13), NONE);
        due("13 of twelve", x.cant(0, 13), NONE);
        due("13 of twelve", x.keeps(0, 0, 0, 13), NO_LEVEL);
        due("twelve", x.sinks(1, 0, 12), 588);
        due("twelve", x.order(0, 12, 0), 0);
        x.months(1, 0);
        due("twelve of eleven", x.order(0, 12, 0), NONE);
        due("twelve of eleven", x.order(0, 12, NONE), NONE);
        due("eleven", x.order(0, 11, NONE), 0);
    }

    private static void firstMonthNotDry() {
        promise = "The first MONTH of n in which a CELL isn't DRY, as TRIED. NONE: none";
        RingsUnder x = rings(1);
        for (int m = 0; m < 70; m++) {
            x.level(0, m, true, m == 7 || m == 9 || m == 62 ? 2500 : 2499);
        }
        due("in seven", x.sinks(0, 0, 7), NONE);
        due("in eight", x.sinks(0, 0, 8), 7);
        due("in sixty", x.sinks(0, 0, 60), 7);
        x.months(7, 0);
        due("the next", x.sinks(0, 0, 1), 7);
        x.months(1, 0);
        due("not dry now, dry in the next", x.sinks(0, 0, 1), NONE);
        due("dry in one, not in two", x.sinks(0, 0, 2), 9);
        x.months(2, 0);
        due("in 52", x.sinks(0, 0, 52), NONE);
        due("in 53", x.sinks(0, 0, 53), 62);
        due("under another rise", x.sinks(0, 1, 60), NONE);
        due("cell", x.sinks(1, 0, 60), NONE);
        due("nothing is changed", x.cellOf(0, 9) * 100 + x.about(0), 110);
    }

    private static void sinksAsTried() {
        promise = "TRIED, as if they went by now: SAND walks, REEF grows, LEVELS are as KNOWN";
        RingsUnder x = new RingsUnder();
        x.ring();
        x.cell(0, 495, 0, 0, 12, 0);
        x.cell(0, 490, 0, 0, 30, 0);
        x.rules(0, 0, 0, 1, 0);
        due("12, 7, 2 of sand", x.sinks(0, 0, 60), 1);
        due("thirty and what comes", x.sinks(1, 0, 60), 6);
        x.wall(0, 1);
        due("walled, 508", x.sinks(0, 0, 60), NONE);
        due("the next has none of it", x.sinks(1, 0, 60), 3);
        x.level(0, 0, true, 7);
        x.level(0, 1, true, 7);
        x.level(0, 2, true, 8);
        due("508 isn't above 508", x.sinks(0, 0, 60), 2);
        x.level(0, 2, true, 7);
        due("put right, but eight is the worst behind it", x.sinks(0, 0, 60), 3);
        due("not in three", x.sinks(0, 0, 3), NONE);
        RingsUnder y = new RingsUnder();
        y.ring();
        y.cell(0, 500, 0, 0, 0, 40);
        y.rules(25, 1, 1, 1, 0);
        y.table(3, 0, 510, 25, 0, 0);
        y.table(4, 0, 511, 25, 0, 0);
        due("reef / 4 is ten, and eleven behind four", y.sinks(0, 0, 4), 4 - 5);
        due("eleven isn't above eleven", y.sinks(0, 0, 5), 4);
    }

    private static void cantAsTried() {
        promise = "The first MONTH of n in which THE FUND CAN'T, as TRIED. NONE: none";
        RingsUnder x = rings(1);
        enact(x, "leave 0;");
        x.rules(0, 0, 0, 1, 10);
        x.sail(0, 30);
        due("no wall", x.cant(0, 60), NONE);
        x.wall(0, 1);
        due("30, 20, 10, 0", x.cant(0, 3), NONE);
        due("below", x.cant(0, 4), 3);
        due("below in sixty", x.cant(0, 60), 3);
        due("nothing is changed", x.about(8), 30);
        due("nothing is told", x.about(12), NONE);
        x.person(0, 0, 0, 0, 10);
        due("it doesn't send from home", x.cant(0, 60), 3);
        x.go(0, 200);
        due("it sends", x.cant(0, 60), NONE);
        x.death(0);
        x.months(4, 0);
        due("told", x.about(12), 3);
        due("can't in the next", x.cant(0, 1), 4);
        x.sail(0, 20);
        due("not in the next", x.cant(0, 1), NONE);
        due("but in the one behind it", x.cant(0, 60), 5);
        due("the first stays told", x.about(12), 3);
    }

    private static void fundNow() {
        promise = "THE FUND CAN'T, as TRIED: by its AREA, FIX and LEAVE";
        RingsUnder x = new RingsUnder();
        x.ring();
        x.cell(0, 100, 15, 15, 0, 0);
        x.wall(0, 1);
        x.rules(0, 0, 0, 1, 5);
        x.force(read(x, "leave 100;"), 0, 9);
        x.level(0, 0, true, 0);
        x.level(0, 6, true, 101);
        x.level(0, 7, true, 0);
        for (int m = 1; m < 20; m++) {
            if (m != 6 && m != 7) {
                x.level(0, m, true, 0);
            }
        }
        due("under water in six", x.cant(0, 6), NONE);
        due("under water in seven", x.cant(0, 7), 6);
        x.force(read(x, "fix 5;"), 6, 6);
        due("fixed as it will be", x.cant(0, 10), NONE);
        due("without leave", x.cant(0, 11), 10);
        x.force(read(x, "fix 6;"), 7, 7);
        due("fixed as it will be, under water", x.cant(0, 10), 7);
    }

    private static void keepsOfItsOwn() {
        promise = "What a WALL keeps: SAND of a CELL behind n MONTHS, as TRIED, less what it would be if the CELL wall had none";
        RingsUnder x = new RingsUnder();
        x.ring();
        x.cell(0, 0, 0, 0, 23, 0);
        x.wall(0, 1);
        int[] due = {0, 5, 10, 15, 20, 23, 23};
        for (int n = 1; n < due.length; n++) {
            due("of its own in " + n, x.keeps(0, 0, 0, n), due[n]);
        }
        x.table(1, 0, 500, 25, 0, 0);
        due("by the tables of these months", x.keeps(0, 0, 0, 2), 5);
        x.months(1, 0);
        due("from the clock on", x.keeps(0, 0, 0, 1), 0);
        due("from the clock on", x.keeps(0, 0, 0, 2), 5);
        due("nothing is changed", x.cellOf(0, 2) * 10 + x.cellOf(0, 4), 231);
    }

    private static void keepsFromOthers() {
        promise = "walls that keep it from others";
        RingsUnder x = new RingsUnder();
        x.ring();
        x.ring();
        x.cell(0, 0, 0, 0, 50, 0);
        x.cell(0, 0, 0, 0, 20, 0);
        x.cell(1, 0, 0, 0, 50, 0);
        x.cell(0, 0, 0, 0, 0, 0);
        x.wall(1, 1);
        due("ahead of it", x.keeps(1, 0, 0, 9), 0);
        due("its own: nine times five", x.keeps(1, 1, 0, 9), 45);
        due("of another ring", x.keeps(1, 2, 0, 9), 0);
        due("the next in one", x.keeps(1, 3, 0, 1), -5);
        due("the next in nine: what comes goes on", x.keeps(1, 3, 0, 9), -5);
        x.wall(3, 1);
        due("behind a wall it stays", x.keeps(1, 3, 0, 9), -45);
        due("the last keeps what it has", x.keeps(3, 3, 0, 9), 0);
    }

    private static void noWall() {
        promise = "-1000000 for others, or there is no WALL";
        RingsUnder x = rings(1);
        x.cell(0, 0, 0, 0, 0, 0);
        due("none", x.keeps(0, 0, 0, 5), NO_LEVEL);
        x.wall(0, 1);
        due("one", x.keeps(0, 0, 0, 5), 0);
        due("one elsewhere", x.keeps(1, 0, 0, 5), NO_LEVEL);
        due("of the other cell", x.keeps(0, 1, 0, 5), 0);
        x.wall(0, 0);
        due("none again", x.keeps(0, 0, 0, 5), NO_LEVEL);
    }

    private static void orderOfNobody() {
        promise = "THE ORDER without RINGS or PERSONS";
        RingsUnder x = new RingsUnder();
        due("no ring is the first", x.order(0, 5, 0), NONE);
        due("nothing lacks", x.order(0, 5, NONE), 0);
        x.ring();
        due("one ring", order(x, 0, 5, 1), "0: 0");
        due("no second", x.order(0, 5, 1), NONE);
        for (int r = 1; r < 5; r++) {
            x.ring();
        }
        due("five rings", order(x, 0, 5, 5), "01234: 0");
        due("no sixth", x.order(0, 5, 5), NONE);
    }

    private static void orderOfLikeOnes() {
        promise = "of like ones the first by RINGS' numbers";
        RingsUnder x = rings(3);
        x.lot(60);
        for (int r = 0; r < 3; r++) {
            x.person(r, 0, 0, r, 0);
        }
        x.sail(1, 0);
        due("one month: nobody is away yet", order(x, 0, 1, 3), "012: 6");
        due("all are alike", order(x, 0, 3, 3), "012: 12");
        x.well(1, 20, 1000, 0);
        due("ring 1 has water: the last", order(x, 0, 3, 3), "021: 9");
        x.well(0, 20, 1000, 0);
        x.well(2, 20, 1000, 0);
        due("alike again", order(x, 0, 3, 3), "012: 6");
        x.sail(0, 0);
        due("without boats", order(x, 0, 12, 3), "012: 36");
    }

    private static void orderOfAllRings() {
        promise = "PERSONS go by RINGS in some order (that of those told)";
        RingsUnder x = rings(5);
        x.lot(60);
        int p = 0;
        for (int r = 0; r < 5; r++) {
            for (int i = 0; i <= r; i++) {
                x.person(r, 0, 0, r, 0);
                p++;
            }
            x.beds(r, 20);
        }
        due("fifteen", p, 15);
        x.sail(5, 0);
        due("one and four, then two and three, then five", order(x, 0, 4, 5), "03124: 30");
        due("in one month all are alike", order(x, 0, 1, 5), "01234: 15");
        due("in two: five of them are away", order(x, 0, 2, 5), "03124: 25");
        due("four boats", x.sail(4, 0), true);
        due("one and three, then four, then two, never five", order(x, 0, 4, 5), "02314: 38");
        x.sail(1, 0);
        due("one of one goes, the others never can", order(x, 0, 12, 5), "01234: 169");
        x.sail(40, 0);
        due("all at once", order(x, 0, 12, 5), "01234: 15");
    }

    private static void orderOfTheseMonths() {
        promise = "THIRST and NO BED of these MONTHS together are least";
        RingsUnder x = rings(2);
        x.lot(1);
        x.person(0, 0, 0, 0, 0);
        x.person(0, 0, 0, 1, 0);
        x.months(5, 0);
        due("what was ahead of the clock doesn't count", order(x, 0, 2, 2), "01: 8");
        x.sail(1, 0);
        due("one lot, one bed: one goes", order(x, 0, 2, 2), "01: 6");
        x.beds(0, 1);
        due("ring 0 has a bed", order(x, 0, 2, 2), "10: 4");
        x.well(0, 1, 0, 21);
        due("and sweet water", order(x, 0, 2, 2), "10: 2");
        x.level(1, 5, true, 2500);
        due("under water: the bed is given up, the well turns salt", order(x, 1, 2, 2), "01: 6");
        due("thirst as it was", x.about(15), 10);
        due("the clock as it was", x.about(0), 5);
        due("the bed as it was", x.cellOf(0, 6), 1);
    }

    private static void orderTurnedRound() {
        promise = "THE ORDER: in some order, the last of 120 too";
        RingsUnder x = rings(5);
        x.lot(60);
        for (int p = 0; p < 40; p++) {
            int ring = p < 6 ? 0 : p < 13 ? 1 : p < 21 ? 2 : p < 30 ? 3 : 4;
            x.person(ring, 0, 0, ring, 0);
        }
        x.sail(10, 0);
        due("ten, nine, eight, seven, six", order(x, 0, 5, 5), "43210: " + 2 * (40 + 30 + 21 + 13 + 6));
        due("in three months the last two are alike", order(x, 0, 3, 5), "43012: " + 2 * (40 + 30 + 21));
    }

    private static void orderOfLittleWater() {
        promise = "THE ORDER: WELLS are in each order as they are now";
        RingsUnder x = rings(2);
        x.lot(60);
        for (int t = 0; t < 12; t++) {
            x.table(t, 0, 500, 25, 5, 0);
        }
        x.well(0, 1, 30, 0);
        x.well(1, 1, 10, 0);
        x.beds(0, 20);
        x.beds(1, 20);
        x.person(0, 0, 0, 0, 0);
        x.person(1, 0, 0, 1, 0);
        x.sail(1, 0);
        due("ring 0 has water for three months, ring 1 for one", order(x, 0, 3, 2), "10: 0");
        due("lens", x.cellOf(0, 7) * 100 + x.cellOf(1, 7), 3010);
    }

    private static void orderOfBedsGivenUp() {
        promise = "THE ORDER: BEDS as they are given up in its MONTHS";
        RingsUnder x = new RingsUnder();
        x.ring();
        x.ring();
        x.cell(0, 1000, 0, 0, 0, 0);
        x.cell(1, 800, 0, 0, 0, 0);
        x.rules(0, 0, 0, 1, 0);
        x.lot(60);
        x.beds(0, 20);
        x.beds(1, 20);
        x.well(0, 20, 1000, 0);
        x.well(1, 20, 1000, 0);
        x.person(0, 0, 0, 0, 0);
        x.person(1, 0, 0, 1, 0);
        x.level(0, 0, true, 0);
        x.level(0, 1, true, 400);
        x.level(0, 2, true, 0);
        x.sail(1, 0);
        due("in one nothing lacks", order(x, 0, 1, 2), "01: 0");
        due("ring 1 is given up in the second", order(x, 0, 2, 2), "10: 0");
        x.sail(0, 0);
        due("without boats: in the second and the third", order(x, 0, 3, 2), "01: 2");
        due("they are there still", x.cellOf(1, 6), 20);
    }

    private static void orderOfForty() {
        promise = "THE ORDER of forty PERSONS, some elsewhere; may by what they are";
        RingsUnder x = rings(2);
        x.lot(60);
        for (int p = 0; p < 40; p++) {
            x.person(p % 10, p, p % 8, p % 2, 0);
        }
        x.go(0, 200);
        x.go(39, 100);
        x.death(38);
        x.sail(40, 0);
        due("37 of forty, all go", order(x, 0, 2, 2), "01: 74");
        x.sail(1, 0);
        enact(x, "may age=35 or age=34;");
        x.beds(0, 20);
        due("34 on ring 0 has a bed, 35 on ring 1 has none", order(x, 0, 2, 2), "10: " + (37 + 19 + 36 + 18));
        enact(x, "may kin=5 and craft=3;");
        due("35 alone", order(x, 0, 2, 2), "01: " + (37 + 19 + 36 + 18));
        enact(x, "may place=100 or place=200;");
        due("nobody on rings", order(x, 0, 2, 2), "01: " + 2 * (37 + 19));
    }

    private static void orderOfMostLacks() {
        promise = "THIRST and NO BED of these MONTHS together (as many as there can be); of like ones the first by RINGS' numbers";
        RingsUnder x = rings(2);
        x.lot(3);
        x.person(0, 30, 0, 0, 0);
        x.person(1, 30, 0, 1, 0);
        x.person(1, 30, 0, 1, 0);
        for (int i = 3; i < 40; i++) {
            x.person(2, 30, 0, 0, 0);
        }
        x.sail(2, 0);
        due("the two of ring 1 ahead of the one of ring 0", order(x, 0, 2, 2), "10: 156");
        x.sail(0, 0);
        due("all lack all for twelve months, whoever is first", order(x, 0, 12, 2), "01: 960");
    }

    private static void orderInsteadOfOrder() {
        promise = "instead of order PERSONS go by RINGS; may is as it is";
        RingsUnder x = rings(2);
        x.lot(60);
        x.person(0, 10, 0, 0, 0);
        x.person(1, 50, 0, 1, 0);
        x.beds(1, 20);
        x.well(1, 20, 10000, 0);
        x.sail(1, 0);
        enact(x, "order -age;");
        due("ring 0 first", order(x, 0, 2, 2), "01: 2");
        enact(x, "may age>20;");
        due("who may not stays, all are alike", order(x, 0, 2, 2), "01: 4");
        x.force(read(x, "may month=1;"), 0, 599);
        due("who may in the second month", order(x, 0, 2, 2), "01: 4");
        due("and is away in the third", order(x, 0, 3, 2), "01: 4");
        x.months(3, 0);
        due("by order itself, ring 1 went", x.personOf(1, 7), 1);
        due("and ring 0 didn't", x.personOf(0, 7), NONE);
    }

    private static void orderByNumbersThen() {
        promise = "(that of those told; then by numbers)";
        RingsUnder x = rings(2);
        x.lot(60);
        x.beds(1, 20);
        int[][] persons = {{5, 0}, {9, 1}, {5, 0}, {7, 0}, {5, 0}};
        for (int[] p : persons) {
            x.person(p[0], 90 - p[0], 0, p[1], 0);
        }
        enact(x, "order age;");
        x.sail(3, 0);
        due("the three of kin 5 by their first number", order(x, 0, 2, 2), "01: " + (1 + 4 + 4 + 1 + 1 + 1));
        x.sail(2, 0);
        due("three aren't two, but the next is one", order(x, 0, 2, 2), "01: " + (1 + 4 + 4 + 3 + 3));
    }

    private static void whichRing() {
        promise = "what NONE: THIRST and NO BED together; else which RING is there (0 the first)";
        RingsUnder x = rings(2);
        for (int what : new int[] {SMALL, -2, 2, 3, 4, 5, BIG}) {
            due("what " + what, x.order(0, 1, what), NONE);
        }
        due("first", x.order(0, 1, 0), 0);
        due("second", x.order(0, 1, 1), 1);
        due("together", x.order(0, 1, NONE), 0);
        due("rise", x.order(3, 1, 0), NONE);
        due("rise", x.order(-1, 1, NONE), NONE);
    }

    private static void graves() {
        promise = "GRAVES 0 .. 29";
        RingsUnder x = rings(2);
        due("none yet", x.bury(0, 1), false);
        due("none found", x.found(0, 0), NONE);
        for (int g = 0; g < 30; g++) {
            due("grave", x.grave(g % 2), g);
            due("the next isn't yet", x.bury(g + 1, 0), false);
        }
        due("the 31st", x.grave(0), NONE);
        due("thirty", x.about(10), 30);
        due("the last", x.found(1, 14), 1);
        due("behind the last", x.found(1, 15), NONE);
        due("the last is moved", x.bury(29, 0), true);
        due("it lies there now", x.found(0, 15), 0);
        due("no 17th", x.found(0, 16), NONE);
        due("and was here", x.found(1, 14), 0);
    }

    private static void moved() {
        promise = "MOVED to another one. False for others, or it is there";
        RingsUnder x = rings(3);
        x.grave(1);
        due("it is there", x.bury(0, 1), false);
        due("moved", x.bury(0, 0), true);
        due("it is there", x.bury(0, 0), false);
        due("moved to the last", x.bury(0, 2), true);
        due("moved home", x.bury(0, 1), true);
        due("behind the last cell", x.bury(0, 3), false);
        due("ahead of the first", x.bury(0, -1), false);
        due("no grave", x.bury(-1, 0), false);
        due("it lies there", x.found(1, 0), 1);
        x.months(1, 0);
        due("in any month", x.grave(2), 1);
        due("in any month", x.bury(1, 0), true);
    }

    private static void found() {
        promise = "The CELL where the i-th that was FOUND lies now. NONE if there is none such";
        RingsUnder x = rings(3);
        x.grave(0);
        due("the first", x.found(0, 0), 0);
        due("the second", x.found(0, 1), NONE);
        due("-1", x.found(0, -1), NONE);
        due("far", x.found(0, BIG), NONE);
        due("far", x.found(0, SMALL), NONE);
        due("of a cell without", x.found(1, 0), NONE);
        due("no cell", x.found(3, 0), NONE);
        due("no cell", x.found(-1, 0), NONE);
        due("no cell", x.found(64, 0), NONE);
        due("no cell", x.found(32, 0), NONE);
    }

    private static void atAnyTime() {
        promise = "of a CELL the i-th GRAVE that lay in it at any time (by GRAVES)";
        RingsUnder x = rings(1);
        for (int c = 1; c < 40; c++) {
            x.cell(0, 3000, 0, 0, 0, 0);
        }
        x.grave(39);
        x.grave(5);
        x.grave(39);
        x.bury(1, 39);
        x.bury(0, 5);
        x.bury(0, 31);
        x.bury(0, 32);
        due("0 first, wherever", x.found(39, 0), 32);
        due("1 came later", x.found(39, 1), 39);
        due("2 never went", x.found(39, 2), 39);
        due("no more", x.found(39, 3), NONE);
        due("0 in cell 5, by graves", x.found(5, 0), 32);
        due("1 in cell 5", x.found(5, 1), 39);
        due("on its way", x.found(31, 0), 32);
        due("there", x.found(32, 0), 32);
        x.bury(0, 39);
        due("once again, told once", x.found(39, 0), 39);
        due("1 as it was", x.found(39, 1), 39);
        due("three", x.found(39, 2) * 10 + x.found(39, 3), 389);
        for (int c = 0; c < 39; c++) {
            due("through all", x.bury(2, c), true);
        }
        for (int c = 0; c < 39; c++) {
            due("it lies in the last", x.found(c, c == 5 || c == 31 || c == 32 ? c == 5 ? 2 : 1 : 0), 38);
        }
    }

    private static void newImage() {
        promise = "THE IMAGE is this (a new object)";
        RingsUnder x = Country.old();
        x.image();
        RingsUnder y = Country.old();
        RingsUnder z = new RingsUnder();
        due("its own image is behind month 3", y.back(), 3);
        due("this one's is new", z.back(), 0);
        due("this one's is now", x.back(), 4);
        RingsUnder n = high();
        n.months(5, 0);
        due("a new object again", n.back(), 0);
        for (int what = 0; what <= 16; what++) {
            due("about(" + what + ")", n.about(what), what == 12 ? NONE : 0);
        }
        due("area", n.area(), NONE);
        due("ring", n.ring(), 0);
        due("tables", n.cell(0, 501, 0, 0, 0, 0), 0);
        n.months(1, 0);
        due("dry", n.cellOf(0, 10), 1);
        due("area", n.area(), 11);
    }

    private static void imageStays() {
        promise = "BACK to THE IMAGE (it stays): the clock";
        RingsUnder x = Country.old();
        due("image", x.image(), 4);
        String before = Country.all(x);
        RingsUnder y = Country.old();
        y.image();
        for (int i = 0; i < 3; i++) {
            y.months(60, 2);
            y.wall(0, 900);
            y.death(0);
            y.beds(3, 5);
            y.grave(3);
            y.bury(1, 3);
            y.title(0, 2);
            y.force(0, y.about(0), 599);
            y.table(4, 0, 2000, 40, 50, 100);
            y.rules(0, 5, 50, 20, 0);
            y.level(0, 5, true, 2000);
            y.choose(2, 1);
            y.lot(9);
            y.person(0, 0, 0, 0, 0);
            y.ring();
            y.sail(9, 999);
            due("back", y.back(), 4);
        }
        due("as it was", Country.all(y), before);
    }

    private static void back() {
        promise = "AN IMAGE: all as it is, but the tape and the latest FAULT";
        RingsUnder x = new RingsUnder();
        tape(x, "council 7;");
        x.image();
        due("text", x.text(), 0);
        tape(x, "fix");
        x.back();
        due("no text", x.about(6), 0);
        due("the tape as it is", x.about(13), 3);
        due("the fault as it is", x.fault(0), 0);
        due("bad", x.text(), NONE);
        x.back();
        due("the tape as it is", x.about(13), 0);
        due("the fault as it is", x.fault(0) * 10 + x.fault(1), 13);
        x.image();
        due("the fault as it is", x.fault(0) * 10 + x.fault(1), 13);
        due("a text of an image", read(x, "council 3;"), 0);
        x.force(0, 0, 599);
        x.image();
        due("another", read(x, "council 4;"), 1);
        x.force(1, 0, 599);
        due("says", x.says(0, 0), 4);
        x.back();
        due("says", x.says(0, 0), 3);
        due("one in its place", read(x, "council 5;"), 1);
        x.force(1, 5, 5);
        due("says", x.says(5, 0) * 10 + x.says(4, 0), 53);
    }

    private static void backBehindAndAhead() {
        promise = "BACK: all is so again, the clock too";
        RingsUnder x = high();
        x.months(60, 0);
        x.image();
        x.months(60, 0);
        due("back", x.back(), 60);
        due("levels told now are told in 60", x.level(0, 70, true, 9), 1);
        due("as known in 59", x.levelOf(0, 70, 59), 0);
        due("as known in 60", x.levelOf(0, 70, 60), 9);
        due("and on", x.months(60, 0), 120);
        due("image", x.image(), 120);
        due("back", x.back(), 120);
        due("cells come in month 0 alone", x.cell(0, 0, 0, 0, 0, 0), NONE);
    }

    private static void backToThirst() {
        promise = "BACK: THIRST, NO BED and BOATS of each PERSON are so again";
        RingsUnder x = rings(1);
        x.lot(5);
        x.person(0, 0, 0, 0, 0);
        x.person(1, 0, 0, 0, 0);
        x.sail(1, 0);
        x.months(3, 0);
        x.go(0, 0);
        x.image();
        x.months(4, 0);
        due("the latest", x.personOf(0, 7), 3);
        due("thirst", x.about(15), 4);
        x.back();
        due("thirst", x.personOf(0, 5) * 10 + x.personOf(1, 5), 12);
        due("no bed", x.personOf(0, 6) * 10 + x.personOf(1, 6), 12);
        due("went", x.personOf(0, 7) * 10 + x.personOf(1, 7), 1);
        due("thirst of all", x.about(15), 3);
        due("no bed of all", x.about(16), 3);
        due("place", x.personOf(0, 0), 0);
        due("one comes", x.person(5, 0, 0, 0, 0), 2);
        x.months(1, 0);
        x.back();
        due("another comes", x.person(6, 0, 0, 0, 0), 2);
        due("without thirst", x.personOf(2, 5) + x.personOf(2, 6) + x.personOf(2, 7), NONE);
    }

    private static void backToTides() {
        promise = "BACK: what was DRY and a ROCK in the latest MONTH, and the TABLES";
        RingsUnder x = new RingsUnder();
        x.ring();
        x.cell(0, 100, 9, 9, 0, 0);
        x.cell(0, 900, 20, 20, 0, 0);
        x.person(0, 0, 0, 0, 0);
        x.title(0, 0);
        x.title(1, 0);
        x.rules(0, 0, 0, 1, 0);
        x.table(2, 50, 500, 25, 5, 20);
        x.level(0, 0, true, 0);
        x.level(0, 1, true, 600);
        x.level(0, 2, true, 0);
        x.months(1, 0);
        x.image();
        for (int i = 0; i < 2; i++) {
            x.table(2, 200, 2000, 25, 5, 20);
            due("a trial doesn't bring it back", x.sinks(1, 0, 2), 1);
            x.months(2, 0);
            due("nothing is dry", x.cellOf(0, 10) + x.cellOf(1, 10), 0);
            due("the first is no rock", x.cellOf(0, 11) * 10 + x.cellOf(1, 11), 1);
            due("under", x.cellOf(0, 9) * 10 + x.cellOf(1, 9), 32);
            due("no title stands", x.titleOf(0, 1) + x.titleOf(1, 1), 0);
            x.back();
            due("the second is dry", x.cellOf(0, 10) * 10 + x.cellOf(1, 10), 1);
            due("both are rocks", x.cellOf(0, 11) * 10 + x.cellOf(1, 11), 11);
            due("under", x.cellOf(0, 9) * 10 + x.cellOf(1, 9), 10);
            due("one title stands", x.titleOf(0, 1) * 10 + x.titleOf(1, 1), 1);
            due("area", x.area(), 10);
            x.months(2, 0);
            due("low is 50 again", x.cellOf(0, 11), 1);
            due("high is 500 again", x.cellOf(1, 10), 1);
            x.back();
        }
    }

    private static void about() {
        promise = "about: -1000000000 for others";
        RingsUnder x = new RingsUnder();
        for (int what : new int[] {SMALL, -2, -1, 17, 18, 100, BIG}) {
            due("what " + what, x.about(what), NO_ANSWER);
        }
        for (int what = 0; what <= 16; what++) {
            due("what " + what, x.about(what), what == 12 ? NONE : 0);
        }
    }
}
