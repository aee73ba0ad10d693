/** Part IV of the document, step by step where one names a boundary: what goes by in a MONTH, AREA, THE FUND, BOATS. */
final class MonthEdgesTest extends Check {
    public static void main(String[] args) {
        monthsAtOnce();
        levelAsKnown();
        reefBears();
        reefAtMostAndLeast();
        sandOrDrift();
        sandAtOnce();
        sandAndWalls();
        topNow();
        wellsInTheDry();
        wellsUnderWater();
        bedsGivenUp();
        drinkByNumbers();
        drinkByCells();
        ringWithoutCells();
        sleep();
        whoIsNotOnRings();
        leaveIsCut();
        costOfWalls();
        fundBelowNothing();
        firstMonthItCant();
        boatsLeft();
        bedsForThem();
        kinOfThatRing();
        notLookedAtAgain();
        allLotsFull();
        fortyByOrder();
        boatsEachMonth();
        boatsLast();
        sailing();
        areaOfAllReaches();
        areaOfThisMonth();
        fixBelow();
        fixOfItsMonth();
        conclude();
    }

    /** RINGS, each with one CELL far above a sea that moves nothing and leaves nothing. */
    private static RingsUnder rings(int count) {
        RingsUnder x = new RingsUnder();
        for (int r = 0; r < count; r++) {
            x.ring();
            x.cell(r, 3000, 10, 10, 0, 0);
        }
        x.rules(0, 0, 0, 1, 0);
        return x;
    }

    private static void folk(RingsUnder x, int count) {
        for (int i = 0; i < count; i++) {
            x.person(0, 0, 0, 0, 0);
        }
    }

    private static void monthsAtOnce() {
        promise = "n MONTHS go by (1 .. 60) under a RISE: the clock";
        for (int n : new int[] {1, 2, 59, 60}) {
            RingsUnder x = rings(1);
            folk(x, 1);
            due("months(" + n + ")", x.months(n, 0), n);
            due("thirst in each", x.personOf(0, 5), n);
        }
        for (int n : new int[] {0, -1, 61, 600, BIG, SMALL}) {
            RingsUnder x = rings(1);
            due("months(" + n + ")", x.months(n, 0), NONE);
            due("none went by", x.about(0), 0);
        }
        RingsUnder x = rings(1);
        RingsUnder y = rings(1);
        for (int m = 0; m < 24; m++) {
            x.level(2, m, true, 2500 + m % 5);
            y.level(2, m, true, 2500 + m % 5);
        }
        for (int m = 0; m < 24; m++) {
            x.months(1, 2);
        }
        y.months(24, 2);
        due("one by one or at once", x.cellOf(0, 9), y.cellOf(0, 9));
    }

    private static void levelAsKnown() {
        promise = "A MONTH m goes by under a RISE (told; LEVEL as KNOWN in m)";
        RingsUnder x = rings(1);
        x.level(1, 1, true, 2500);
        x.months(1, 0);
        due("under another rise", x.cellOf(0, 10), 1);
        x.level(0, 1, true, 2499);
        x.months(1, 1);
        due("told ahead", x.cellOf(0, 10), 0);
        x.level(1, 1, true, 0);
        due("put right too late", x.cellOf(0, 10), 0);
        x.level(1, 2, true, 5000);
        x.level(1, 2, true, 0);
        x.months(1, 1);
        due("put right in time", x.cellOf(0, 10), 1);
        x.months(1, 1);
        due("none was told for it: worst", x.cellOf(0, 10), 0);
        x.level(1, 4, false, 0);
        x.level(1, 5, true, 2499);
        x.months(1, 1);
        due("no number: the one behind", x.cellOf(0, 10), 1);
    }

    private static void reefBears() {
        promise = "REEF: if WARM is BEAR or less GROW more, else DIE less";
        int[][] rows = {{0, 0, 103}, {1, 0, 93}, {40, 40, 103}, {40, 39, 93}, {29, 29, 103}, {30, 29, 93}, {0, 40, 103}};
        for (int[] r : rows) {
            RingsUnder x = new RingsUnder();
            x.ring();
            x.cell(0, 0, 0, 0, 0, 100);
            x.rules(r[1], 3, 7, 1, 0);
            x.table(0, 0, 0, r[0], 0, 0);
            x.months(1, 0);
            due("warm " + r[0] + ", bear " + r[1], x.cellOf(0, 3), r[2]);
        }
    }

    private static void reefAtMostAndLeast() {
        promise = "GROW more (400 at most), DIE less (0 at least)";
        int[][] grows = {{394, 399}, {395, 400}, {396, 400}, {399, 400}, {400, 400}};
        int[][] dies = {{51, 1}, {50, 0}, {49, 0}, {1, 0}, {0, 0}};
        for (int i = 0; i < grows.length; i++) {
            RingsUnder x = new RingsUnder();
            x.ring();
            x.cell(0, 0, 0, 0, 0, grows[i][0]);
            x.rules(25, 5, 50, 1, 0);
            x.months(1, 0);
            due("grows", x.cellOf(0, 3), grows[i][1]);
            RingsUnder y = new RingsUnder();
            y.ring();
            y.cell(0, 0, 0, 0, 0, dies[i][0]);
            y.rules(24, 5, 50, 1, 0);
            y.months(1, 0);
            due("dies", y.cellOf(0, 3), dies[i][1]);
        }
        RingsUnder x = new RingsUnder();
        x.ring();
        x.cell(0, 0, 0, 0, 0, 200);
        x.rules(25, 0, 50, 1, 0);
        x.months(1, 0);
        due("grows by none", x.cellOf(0, 3), 200);
        x.rules(24, 5, 0, 1, 0);
        x.months(1, 0);
        due("dies by none", x.cellOf(0, 3), 200);
    }

    private static void sandOrDrift() {
        promise = "of each CELL without a WALL the lesser of SAND and DRIFT goes";
        int[][] rows = {{0, 5, 0}, {4, 5, 4}, {5, 5, 5}, {6, 5, 5}, {500, 50, 50}, {49, 50, 49}, {51, 50, 50}, {500, 0, 0}};
        for (int[] r : rows) {
            RingsUnder x = new RingsUnder();
            x.ring();
            x.cell(0, 0, 0, 0, r[0], 0);
            x.cell(0, 0, 0, 0, 0, 0);
            x.table(0, 0, 500, 25, r[1], 20);
            x.months(1, 0);
            due("left of " + r[0], x.cellOf(0, 2), r[0] - r[2]);
            due("came to the next", x.cellOf(1, 2), r[2]);
            due("the deep", x.about(9), 0);
        }
    }

    private static void sandAtOnce() {
        promise = "SAND, all at once: to the next CELL of its RING (of the last one into THE DEEP)";
        RingsUnder x = new RingsUnder();
        x.ring();
        x.ring();
        x.cell(0, 0, 0, 0, 5, 0);
        x.cell(0, 0, 0, 0, 0, 0);
        x.cell(0, 0, 0, 0, 1, 0);
        x.cell(1, 0, 0, 0, 9, 0);
        x.months(1, 0);
        due("what comes doesn't go on", x.cellOf(0, 2) * 100 + x.cellOf(1, 2) * 10 + x.cellOf(2, 2), 50);
        due("the deep: of both last ones", x.about(9), 1 + 5);
        x.months(1, 0);
        due("on", x.cellOf(0, 2) * 100 + x.cellOf(1, 2) * 10 + x.cellOf(2, 2), 5);
        due("the deep", x.about(9), 10);
        x.months(1, 0);
        due("nothing is left", x.about(14), 0);
        due("all is in the deep", x.about(9), 15);
        x.months(1, 0);
        due("no more comes", x.about(9), 15);
    }

    private static void sandAndWalls() {
        promise = "of each CELL without a WALL";
        RingsUnder x = new RingsUnder();
        x.ring();
        x.cell(0, 0, 0, 0, 20, 0);
        x.cell(0, 0, 0, 0, 20, 0);
        x.cell(0, 0, 0, 0, 20, 0);
        x.wall(1, 1);
        x.months(1, 0);
        due("goes", x.cellOf(0, 2), 15);
        due("comes over the wall", x.cellOf(1, 2), 25);
        due("nothing comes behind it", x.cellOf(2, 2), 15);
        x.wall(1, 0);
        x.wall(2, 1000);
        x.months(1, 0);
        due("no wall of 0", x.cellOf(1, 2), 25 + 5 - 5);
        due("the last one's", x.cellOf(2, 2), 20);
        due("nothing into the deep", x.about(9), 5);
    }

    private static void topNow() {
        promise = "DRY or not, ROCK or not, by TOP now";
        RingsUnder x = new RingsUnder();
        x.ring();
        x.cell(0, 497, 0, 0, 8, 0);
        x.cell(0, 496, 0, 0, 0, 0);
        x.rules(0, 0, 0, 1, 0);
        x.months(1, 0);
        due("its sand went ahead of the tide", x.cellOf(0, 10), 0);
        due("and came to the next", x.cellOf(1, 10), 1);
        RingsUnder y = new RingsUnder();
        y.ring();
        y.cell(0, 500, 0, 0, 0, 3);
        y.cell(0, 500, 0, 0, 0, 2);
        y.months(1, 0);
        due("its reef grew ahead of the tide", y.cellOf(0, 10), 1);
        due("not enough", y.cellOf(1, 10), 0);
    }

    private static void wellsInTheDry() {
        promise = "in a DRY CELL LENS is RAIN * CATCH more (10000 at most), SALT 1 less (0 at least)";
        int[][] rows = {{1, 0, 0, 0, 0, 0}, {20, 100, 0, 1, 2000, 0}, {20, 100, 7999, 2, 9999, 1}, {20, 100, 8000, 100, 10000, 99},
            {20, 100, 8001, 0, 10000, 0}, {1, 1, 10000, 0, 10000, 0}, {3, 7, 11, 5, 32, 4}};
        for (int[] r : rows) {
            RingsUnder x = rings(1);
            x.table(0, 0, 500, 25, 5, r[1]);
            x.well(0, r[0], r[2], r[3]);
            x.months(1, 0);
            due("lens", x.cellOf(0, 7), r[4]);
            due("salt", x.cellOf(0, 8), r[5]);
        }
        RingsUnder x = rings(1);
        folk(x, 2);
        x.well(0, 1, 0, 21);
        x.months(1, 0);
        due("rain comes ahead of drinking, and salt goes", x.about(15), 0);
        due("two drank", x.cellOf(0, 7), 0);
    }

    private static void wellsUnderWater() {
        promise = "else SALT 10 more (100 at most)";
        int[][] rows = {{0, 10}, {10, 20}, {89, 99}, {90, 100}, {91, 100}, {100, 100}};
        for (int[] r : rows) {
            RingsUnder x = rings(1);
            x.level(0, 0, true, 2500);
            x.well(0, 20, 77, r[0]);
            x.months(1, 0);
            due("salt", x.cellOf(0, 8), r[1]);
            due("no rain", x.cellOf(0, 7), 77);
        }
    }

    private static void bedsGivenUp() {
        promise = "BEDS of a CELL that isn't DRY are given up: 0 (others may come there again)";
        RingsUnder x = rings(1);
        folk(x, 1);
        x.beds(0, 20);
        x.level(0, 0, true, 2499);
        x.level(0, 1, true, 2500);
        x.months(1, 0);
        due("dry by one", x.cellOf(0, 6), 20);
        due("a bed", x.personOf(0, 6), 0);
        x.months(1, 0);
        due("given up", x.cellOf(0, 6), 0);
        due("ahead of sleep", x.personOf(0, 6), 1);
        due("others come, under water", x.beds(0, 20), 20);
        due("no more than twenty", x.beds(0, 1), NONE);
        x.level(0, 2, true, 0);
        x.months(1, 0);
        due("they stay in the dry", x.cellOf(0, 6), 20);
        due("a bed", x.personOf(0, 6), 1);
    }

    private static void drinkByNumbers() {
        promise = "PERSONS on RINGS drink, by numbers: 10 out of the LENS; without it has THIRST";
        RingsUnder x = rings(2);
        for (int i = 0; i < 6; i++) {
            x.person(0, 0, 0, i % 2, 0);
        }
        x.table(0, 0, 500, 25, 5, 0);
        x.well(0, 1, 25, 0);
        x.months(1, 0);
        int[] due = {0, 1, 0, 1, 1, 1};
        for (int i = 0; i < 6; i++) {
            due("thirst of " + i, x.personOf(i, 5), due[i]);
        }
        due("what is left", x.cellOf(0, 7), 5);
        due("thirst of all", x.about(15), 4);
    }

    private static void drinkByCells() {
        promise = "the first SWEET WELL of that RING, by CELLS";
        RingsUnder x = new RingsUnder();
        x.ring();
        x.ring();
        for (int c = 0; c < 6; c++) {
            x.cell(c == 2 ? 1 : 0, 3000, 0, 0, 0, 0);
        }
        for (int t = 0; t < 12; t++) {
            x.table(t, 0, 500, 25, 5, 0);
        }
        x.well(5, 1, 100, 0);
        x.well(1, 1, 9, 0);
        x.well(2, 1, 100, 0);
        x.well(3, 1, 21, 0);
        x.well(4, 1, 100, 22);
        folk(x, 4);
        x.months(1, 0);
        int[] due = {NONE, 9, 100, 1, 100, 80};
        for (int c = 0; c < 6; c++) {
            due("lens of " + c, x.cellOf(c, 7), due[c]);
        }
        due("no thirst", x.about(15), 0);
        x.months(1, 0);
        due("the fifth is sweet now", x.cellOf(4, 7), 60);
        due("the sixth isn't needed", x.cellOf(5, 7), 80);
    }

    private static void ringWithoutCells() {
        promise = "the first SWEET WELL of that RING; a RING may have no CELL";
        RingsUnder x = rings(1);
        x.ring();
        x.well(0, 1, 100, 0);
        x.table(0, 0, 500, 25, 5, 0);
        x.beds(0, 20);
        x.person(0, 0, 0, 1, 0);
        x.months(1, 0);
        due("nothing to drink", x.personOf(0, 5), 1);
        due("no bed", x.personOf(0, 6), 1);
        due("another ring's well", x.cellOf(0, 7), 100);
    }

    private static void sleep() {
        promise = "of each RING as many as its CELLS have BEDS, by numbers, others have NO BED";
        RingsUnder x = rings(2);
        x.cell(0, 3000, 0, 0, 0, 0);
        x.beds(0, 1);
        x.beds(2, 1);
        x.beds(1, 1);
        for (int i = 0; i < 6; i++) {
            x.person(0, 0, 0, i < 4 ? 0 : 1, 0);
        }
        x.months(1, 0);
        int[] due = {0, 0, 1, 1, 0, 1};
        for (int i = 0; i < 6; i++) {
            due("no bed of " + i, x.personOf(i, 6), due[i]);
        }
        due("of all", x.about(16), 3);
        x.beds(2, 1);
        x.months(1, 0);
        due("one more bed", x.about(16), 5);
        due("the last of ring 0", x.personOf(3, 6), 2);
    }

    private static void whoIsNotOnRings() {
        promise = "PERSONS on RINGS drink and sleep: others don't";
        RingsUnder x = rings(1);
        x.lot(60);
        folk(x, 4);
        x.well(0, 1, 100, 0);
        x.table(0, 0, 500, 25, 5, 0);
        x.beds(0, 1);
        x.go(0, 100);
        x.go(1, 200);
        x.death(2);
        x.months(1, 0);
        due("one drank", x.cellOf(0, 7), 90);
        due("nobody has thirst or no bed", x.about(15) + x.about(16), 0);
    }

    private static void leaveIsCut() {
        promise = "LEAVE of m * AREA / 100, cut, comes in";
        int[][] rows = {{0, 0}, {19, 0}, {20, 1}, {39, 1}, {40, 2}, {100, 5}, {119, 5}, {999, 49}, {1000, 50}};
        for (int[] r : rows) {
            RingsUnder x = rings(1);
            x.force(read(x, "leave " + r[0] + ";"), 0, 0);
            x.months(1, 0);
            due("leave " + r[0] + " of 5 places", x.about(8), r[1]);
            x.months(1, 0);
            due("ten of a hundred without a text", x.about(8), r[1]);
        }
        RingsUnder y = rings(1);
        y.rules(0, 0, 0, 2, 0);
        y.months(3, 0);
        due("10 of 13 places, each month cut", y.about(8), 3);
    }

    private static void costOfWalls() {
        promise = "COST of each CELL with a WALL (0 .. 100) goes out";
        RingsUnder x = rings(1);
        x.cell(0, 3000, 0, 0, 0, 0);
        x.cell(0, 3000, 0, 0, 0, 0);
        x.force(read(x, "leave 0;"), 0, 599);
        x.rules(0, 0, 0, 1, 100);
        x.sail(0, 1000);
        x.months(1, 0);
        due("no wall", x.about(8), 1000);
        x.wall(0, 1);
        x.wall(1, 1000);
        x.wall(2, 1);
        x.wall(2, 0);
        x.months(1, 0);
        due("two walls, high or low", x.about(8), 800);
        x.rules(0, 0, 0, 1, 0);
        x.months(1, 0);
        due("for nothing", x.about(8), 800);
    }

    private static void fundBelowNothing() {
        promise = "is it below 0 then, it CAN'T";
        int[][] rows = {{101, 1, NONE}, {100, 0, NONE}, {99, -1, 0}, {0, -100, 0}};
        for (int[] r : rows) {
            RingsUnder x = rings(1);
            x.force(read(x, "leave 0;"), 0, 599);
            x.rules(0, 0, 0, 1, 100);
            x.wall(0, 1);
            x.sail(0, r[0]);
            x.months(1, 0);
            due("the fund", x.about(8), r[1]);
            due("it can't", x.about(12), r[2]);
        }
        RingsUnder x = rings(1);
        x.force(read(x, "leave 0;"), 0, 599);
        x.rules(0, 0, 0, 1, 100);
        x.person(0, 0, 0, 0, 100);
        x.go(0, 200);
        x.wall(0, 1);
        x.months(1, 0);
        due("what is sent comes in ahead of the cost", x.about(12), NONE);
    }

    private static void firstMonthItCant() {
        promise = "it CAN'T (the first such MONTH is told)";
        RingsUnder x = rings(1);
        x.force(read(x, "leave 0;"), 0, 599);
        x.rules(0, 0, 0, 1, 1);
        x.wall(0, 1);
        x.sail(0, 2);
        x.months(2, 0);
        due("nothing is left, not below", x.about(8) * 10 + x.about(12), NONE);
        x.image();
        x.months(1, 0);
        due("then", x.about(12), 2);
        x.months(5, 0);
        due("the first", x.about(12), 2);
        x.sail(0, 100000);
        x.months(1, 0);
        due("it can again, the first stays told", x.about(12), 2);
        x.sail(0, 0);
        x.back();
        due("an image ahead of it", x.about(12), NONE);
    }

    private static void boatsLeft() {
        promise = "if they are not more than there is left of BOATS";
        for (int boats = 0; boats <= 6; boats++) {
            RingsUnder x = rings(1);
            x.lot(60);
            int[] kins = {1, 1, 1, 2, 2, 3};
            for (int kin : kins) {
                x.person(kin, 0, 0, 0, 0);
            }
            x.sail(boats, 0);
            x.months(1, 0);
            int three = boats >= 3 ? 3 : 0;
            int two = boats - three >= 2 ? 2 : 0;
            int one = boats - three - two >= 1 ? 1 : 0;
            due("three of " + boats, x.at(100) - two - one, three);
            due("first of three", x.personOf(0, 0), three > 0 ? 100 : 0);
            due("last of three", x.personOf(2, 0), three > 0 ? 100 : 0);
            due("two", x.personOf(3, 0), two > 0 ? 100 : 0);
            due("one", x.personOf(5, 0), one > 0 ? 100 : 0);
        }
        RingsUnder y = rings(1);
        y.lot(60);
        folk(y, 40);
        y.sail(39, 0);
        y.months(1, 0);
        due("forty of 39", y.at(100), 0);
        y.sail(40, 0);
        y.months(1, 0);
        due("forty of forty", y.at(100), 40);
    }

    private static void bedsForThem() {
        promise = "and a LOT has free BEDS for them (the first), they are there; else they stay";
        RingsUnder x = rings(1);
        x.lot(0);
        x.lot(2);
        x.lot(3);
        x.lot(3);
        int[] kins = {1, 1, 1, 2, 2, 3, 4, 4, 4, 4};
        for (int kin : kins) {
            x.person(kin, 0, 0, 0, 0);
        }
        x.person(9, 0, 0, 0, 0);
        x.go(10, 103);
        x.sail(40, 0);
        x.months(1, 0);
        due("three into the first that has three", x.personOf(0, 0), 102);
        due("two into the first that has two", x.personOf(3, 0), 101);
        due("one into the first that has one", x.personOf(5, 0), 103);
        due("four find none", x.personOf(6, 0), 0);
        x.go(9, 200);
        x.months(1, 0);
        due("three find none", x.at(0), 3);
        x.go(10, 0);
        x.go(5, 200);
        x.months(1, 0);
        due("three again", x.personOf(6, 0), 103);
        due("that was home", x.personOf(10, 0), 0);
    }

    private static void kinOfThatRing() {
        promise = "with each all of its KIN on that RING for whom it is so";
        RingsUnder x = rings(2);
        x.lot(60);
        int[][] persons = {{1, 30, 0}, {1, 30, 1}, {1, 5, 0}, {1, 30, 0}, {2, 30, 0}, {1, 30, 0}, {1, 30, 0}};
        for (int[] p : persons) {
            x.person(p[0], p[1], 0, p[2], 0);
        }
        x.go(5, 200);
        x.death(6);
        enact(x, "may age>=18; order age,kin;");
        x.sail(2, 0);
        x.months(1, 0);
        int[] due = {100, 1, 0, 100, 0, 200, 300};
        for (int i = 0; i < due.length; i++) {
            due("place of " + i, x.personOf(i, 0), due[i]);
        }
        x.months(1, 0);
        due("of the other ring", x.personOf(1, 7), 1);
        due("of the other kin", x.personOf(4, 7), 1);
        due("who may not stays", x.personOf(2, 7), NONE);
    }

    private static void notLookedAtAgain() {
        promise = "else they stay (and aren't looked at again in this MONTH)";
        RingsUnder x = rings(1);
        x.lot(1);
        x.lot(2);
        int[] kins = {1, 2, 2, 1, 3, 1};
        for (int kin : kins) {
            x.person(kin, 0, 0, 0, 0);
        }
        x.sail(40, 0);
        x.months(1, 0);
        int[] due = {0, 101, 101, 0, 100, 0};
        for (int i = 0; i < due.length; i++) {
            due("place of " + i, x.personOf(i, 0), due[i]);
        }
        x.go(3, 200);
        x.go(1, 200);
        x.go(2, 200);
        x.months(1, 0);
        due("looked at in the next", x.personOf(0, 0) * 1000 + x.personOf(5, 0), 101101);
        due("went", x.personOf(0, 7), 1);
    }

    private static void allLotsFull() {
        promise = "a LOT has free BEDS for them (the first), of five";
        RingsUnder x = rings(1);
        for (int l = 0; l < 5; l++) {
            x.lot(1);
        }
        for (int i = 0; i < 7; i++) {
            x.person(i, 0, 0, 0, 0);
        }
        x.sail(40, 0);
        x.months(1, 0);
        for (int i = 0; i < 7; i++) {
            due("place of " + i, x.personOf(i, 0), i < 5 ? 100 + i : 0);
        }
        x.go(2, 200);
        x.months(1, 0);
        due("the bed that was left", x.personOf(5, 0), 102);
        due("full again", x.personOf(6, 0), 0);
    }

    private static void fortyByOrder() {
        promise = "PERSONS on RINGS for whom may is so, by order: all forty";
        RingsUnder x = rings(5);
        x.lot(60);
        for (int p = 0; p < 40; p++) {
            x.person(p % 10, 50 - p, 0, p / 8, 0);
        }
        enact(x, "order age;");
        x.sail(1, 0);
        for (int m = 0; m < 40; m++) {
            x.months(1, 0);
            due("the youngest of those left", x.personOf(39 - m, 7), m);
        }
        due("all forty", x.at(100), 40);
    }

    private static void boatsEachMonth() {
        promise = "BOATS (0 .. 40) for MONTHS to come; the MONTH in which it went by BOATS (the latest; NONE)";
        RingsUnder x = rings(1);
        x.lot(60);
        for (int i = 0; i < 4; i++) {
            x.person(i, 0, 0, 0, 0);
        }
        x.months(2, 0);
        due("no boats at first", x.at(0), 4);
        x.sail(1, 0);
        x.months(3, 0);
        due("one each month", x.at(100), 3);
        for (int i = 0; i < 4; i++) {
            due("in its month", x.personOf(i, 7), i < 3 ? 2 + i : NONE);
        }
        x.go(0, 0);
        due("home again, it went all the same", x.personOf(0, 7), 2);
        x.months(1, 0);
        due("the latest", x.personOf(0, 7), 5);
        x.sail(0, 0);
        x.months(1, 0);
        due("none any more", x.personOf(3, 7), NONE);
    }

    private static void boatsLast() {
        promise = "BOATS go last: who goes has drunk and slept, or not";
        RingsUnder x = rings(1);
        x.lot(1);
        x.person(0, 0, 0, 0, 50);
        x.sail(1, 0);
        x.months(1, 0);
        due("thirst on the ring", x.personOf(0, 5), 1);
        due("no bed on the ring", x.personOf(0, 6), 1);
        due("gone", x.personOf(0, 0), 100);
        x.months(1, 0);
        due("none in the lot", x.personOf(0, 5) + x.personOf(0, 6), 2);
        due("a lot sends nothing", x.about(8), 0);
    }

    private static void sailing() {
        promise = "sail: BOATS for MONTHS to come, what comes into THE FUND now (0 .. 100000)";
        RingsUnder x = rings(1);
        int[][] wrong = {{-1, 5}, {41, 5}, {5, -1}, {5, 100001}, {SMALL, 0}, {0, BIG}};
        for (int[] w : wrong) {
            due("sail " + w[0] + " " + w[1], x.sail(w[0], w[1]), false);
            due("boats", x.about(11), 0);
            due("fund", x.about(8), 0);
        }
        for (int i = 1; i <= 100; i++) {
            due("sail", x.sail(40, 100000), true);
            due("fund", x.about(8), 100000L * i);
        }
        due("boats", x.about(11), 40);
        due("none", x.sail(0, 0), true);
        due("boats", x.about(11), 0);
        due("fund", x.about(8), 10000000);
    }

    private static int count(int[][] places, int reach) {
        int count = 0;
        for (int i = 0; i < 32; i++) {
            for (int j = 0; j < 32; j++) {
                boolean near = false;
                for (int[] p : places) {
                    int a = p[0] - i;
                    int b = p[1] - j;
                    near = near || a * a + b * b <= reach * reach;
                }
                count += near ? 1 : 0;
            }
        }
        return count;
    }

    private static void areaOfAllReaches() {
        promise = "AREA: how many places of 0 .. 31 by 0 .. 31 are not farther than REACH (1 .. 20; squares of sides together)";
        int[][][] countries = {{{16, 16}}, {{0, 0}}, {{31, 31}}, {{0, 31}, {31, 0}}, {{3, 28}, {5, 28}, {3, 28}}, {{1, 15}, {30, 16}, {15, 1}},
            {{0, 12}, {0, 13}, {31, 14}}, {{12, 0}, {13, 31}, {20, 20}, {21, 22}, {9, 9}}};
        for (int[][] places : countries) {
            RingsUnder x = new RingsUnder();
            x.ring();
            for (int[] p : places) {
                x.cell(0, 3000, p[0], p[1], 0, 0);
            }
            for (int reach = 1; reach <= 20; reach++) {
                due("rules", x.rules(0, 0, 0, reach, 0), true);
                x.months(1, 0);
                due("reach " + reach, x.area(), count(places, reach));
            }
        }
        due("one place, reach 1", count(new int[][] {{16, 16}}, 1), 5);
        due("reach 5 has 3 by 4", count(new int[][] {{16, 16}}, 5), 81);
    }

    private static void areaOfThisMonth() {
        promise = "from a CELL that is a ROCK in this MONTH";
        RingsUnder x = new RingsUnder();
        due("none is over", x.area(), NONE);
        x.ring();
        x.cell(0, 500, 5, 5, 0, 0);
        x.cell(0, 100, 25, 25, 0, 0);
        x.rules(0, 0, 0, 1, 0);
        int[] levels = {0, 99, 100, 499, 500, -1000};
        int[] due = {10, 10, 5, 5, 0, 10};
        for (int m = 0; m < levels.length; m++) {
            x.level(0, m, true, levels[m]);
            due("of the latest month", x.area(), m == 0 ? NONE : due[m - 1]);
            x.months(1, 0);
            due("of month " + m, x.area(), due[m]);
        }
        x.rules(0, 0, 0, 20, 0);
        due("as it was counted", x.area(), 10);
        RingsUnder y = new RingsUnder();
        y.months(1, 0);
        due("without cells", y.area(), 0);
    }

    private static void fixBelow() {
        promise = "with FIX (by THE TEXT of m) f below m: that was one in the MONTH f";
        for (int f = 0; f <= 4; f++) {
            RingsUnder x = new RingsUnder();
            x.ring();
            for (int c = 0; c < 5; c++) {
                x.cell(0, 100 * c + 50, 2 + 6 * c, 15, 0, 0);
            }
            x.rules(0, 0, 0, 1, 0);
            x.force(read(x, "fix " + f + ";"), 0, 599);
            for (int m = 0; m < 5; m++) {
                x.level(0, m, true, 100 * m);
                x.months(1, 0);
                int rocks = 5 - (f < m ? f : m);
                due("fix " + f + " in month " + m, x.area(), 5 * rocks);
            }
        }
        RingsUnder y = new RingsUnder();
        y.ring();
        y.cell(0, 3000, 15, 15, 0, 0);
        y.rules(0, 0, 0, 1, 0);
        y.force(read(y, "fix 599;"), 0, 599);
        y.months(1, 0);
        due("fix 599 in month 0", y.area(), 5);
        y.rules(0, 0, 0, 2, 0);
        y.force(read(y, "fix 0;"), 1, 1);
        y.level(0, 1, true, 5000);
        y.months(1, 0);
        due("what was one in month 0, by reach now", y.area(), 13);
        y.level(0, 2, true, 5000);
        y.months(1, 0);
        due("fix 599 in month 2", y.area(), 0);
    }

    private static void fixOfItsMonth() {
        promise = "FIX by THE TEXT of m, and what was a ROCK then comes back with an image";
        RingsUnder x = new RingsUnder();
        x.ring();
        x.cell(0, 100, 15, 15, 0, 0);
        x.rules(0, 0, 0, 1, 0);
        x.force(read(x, "fix 0;"), 2, 2);
        x.level(0, 0, true, 0);
        x.level(1, 0, true, 900);
        x.level(0, 1, true, 900);
        x.level(1, 1, true, 900);
        x.image();
        x.months(3, 0);
        due("in month 2 by month 0", x.area(), 5);
        x.months(1, 0);
        due("in month 3 by itself", x.area(), 0);
        x.back();
        due("none is over", x.area(), NONE);
        x.months(1, 1);
        x.months(2, 0);
        due("month 0 was otherwise", x.area(), 0);
        x.back();
        x.months(3, 0);
        due("and again", x.area(), 5);
    }
}
