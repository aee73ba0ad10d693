/** Part I of the document, sentence by sentence where one names a boundary: the clock, RINGS, CELLS, LEVELS, TABLES, DRY and ROCK. */
final class SeasEdgesTest extends Check {
    public static void main(String[] args) {
        clock();
        lastMonth();
        rings();
        cells();
        oneBehindTheOther();
        places();
        sandAndReefAtFirst();
        top();
        levelsTold();
        toldInOrAhead();
        noneTold();
        worst();
        noNumber();
        mean();
        firstAndLastMonth();
        ofOneRise();
        tablesByMonth();
        tablesAtFirst();
        lowAndHigh();
        rulesAtFirst();
        dry();
        rock();
        conclude();
    }

    /** A RING with one CELL of this HEIGHT and nothing else, on a sea that neither moves SAND nor feeds REEF. */
    private static RingsUnder bare(int height) {
        RingsUnder x = new RingsUnder();
        x.ring();
        x.cell(0, height, 10, 10, 0, 0);
        x.rules(0, 0, 0, 1, 0);
        return x;
    }

    private static void clock() {
        promise = "MONTHS 0 .. 599: the clock is the MONTH that comes next, at first 0";
        RingsUnder x = new RingsUnder();
        due("the clock", x.about(0), 0);
        due("one", x.months(1, 0), 1);
        due("sixty", x.months(60, 0), 61);
        due("the clock", x.about(0), 61);
    }

    private static void lastMonth() {
        promise = "MONTHS 0 .. 599, behind the last";
        RingsUnder x = bare(-500);
        for (int i = 0; i < 9; i++) {
            x.months(60, 0);
        }
        x.level(0, 599, true, -1000);
        due("59 of 60", x.months(59, 0), 599);
        due("two are more than there are", x.months(2, 0), NONE);
        due("nothing went by", x.about(0), 599);
        due("under till now", x.cellOf(0, 9), 599);
        due("a try of one", x.sinks(0, 0, 1), 599);
        due("a try of two", x.sinks(0, 0, 2), NONE);
        due("keeps one", x.wall(0, 1), true);
        due("keeps one", x.keeps(0, 0, 0, 1), 0);
        due("keeps two", x.keeps(0, 0, 0, 2), NO_LEVEL);
        due("order of one", x.order(0, 1, NONE), 0);
        due("order of two", x.order(0, 2, NONE), NONE);
        due("the last", x.months(1, 0), 600);
        due("dry in it", x.cellOf(0, 10), 1);
        due("none more", x.months(1, 0), NONE);
        due("the clock", x.about(0), 600);
        due("a level of it comes late", x.level(0, 599, true, 4999), 2);
        due("as known in it", x.levelOf(0, 599, 599), -1000);
        due("as known behind it", x.levelOf(0, 599, 600), 4999);
    }

    private static void rings() {
        promise = "RINGS 0 .. 4";
        RingsUnder x = new RingsUnder();
        due("a cell of none", x.cell(0, 0, 0, 0, 0, 0), NONE);
        due("a person on none", x.person(0, 0, 0, 0, 0), NONE);
        due("at none", x.at(0), NONE);
        for (int r = 0; r < 5; r++) {
            due("ring", x.ring(), r);
            due("a cell of it", x.cell(r, 0, 0, 0, 0, 0), r);
            due("of the next", x.cell(r + 1, 0, 0, 0, 0, 0), NONE);
            due("a person on it", x.person(0, 0, 0, r, 0), r);
            due("on the next", x.person(0, 0, 0, r + 1, 0), NONE);
            due("at it", x.at(r), 1);
            due("at the next", x.at(r + 1), NONE);
        }
        due("a sixth", x.ring(), NONE);
        due("five", x.about(1), 5);
        x.months(1, 0);
        x.back();
        due("of an image without", x.ring(), 0);
    }

    private static void cells() {
        promise = "CELLS 0 .. 39";
        RingsUnder x = new RingsUnder();
        x.ring();
        x.ring();
        for (int c = 0; c < 40; c++) {
            due("cell", x.cell(c % 2, c, c % 32, c % 32, c, c), c);
        }
        due("the 41st", x.cell(0, 0, 0, 0, 0, 0), NONE);
        due("forty", x.about(2), 40);
        due("sand of all", x.about(14), 39 * 40 / 2);
        due("the last is as it was told", x.cellOf(39, 1) * 1000 + x.cellOf(39, 2), 39039);
        due("the last has a wall", x.wall(39, 1), true);
        due("behind the last", x.wall(40, 1), false);
        due("the last has a well", x.well(39, 1, 1, 1), true);
        due("a grave in the last", x.grave(39), 0);
        due("found in the last", x.found(39, 0), 39);
        x.months(1, 0);
        due("the last was rock or not", x.cellOf(39, 11), 1);
        due("a cell behind a month", x.cell(0, 0, 0, 0, 0, 0), NONE);
    }

    private static void oneBehindTheOther() {
        promise = "in it one behind the other as they were told";
        RingsUnder x = new RingsUnder();
        x.ring();
        x.ring();
        x.cell(1, 0, 0, 0, 40, 0);
        x.cell(0, 0, 0, 0, 3, 0);
        x.cell(1, 0, 0, 0, 2, 0);
        x.cell(0, 0, 0, 0, 0, 0);
        x.cell(1, 0, 0, 0, 0, 0);
        x.months(1, 0);
        due("ring 1", x.cellOf(0, 2) * 100 + x.cellOf(2, 2) * 10 + x.cellOf(4, 2), 3500 + 50 + 2);
        due("ring 0", x.cellOf(1, 2) * 10 + x.cellOf(3, 2), 3);
        due("nothing from the last ones yet", x.about(9), 0);
        x.months(1, 0);
        due("from both last ones", x.about(9), 3 + 2);
    }

    private static void places() {
        promise = "a place (X, Y) (0 .. 31 each; several may have one)";
        RingsUnder x = bare(3000);
        x.cell(0, 3000, 10, 10, 0, 0);
        x.cell(0, 3000, 10, 10, 0, 0);
        x.months(1, 0);
        due("counted once", x.area(), 5);
        int[][] corners = {{0, 0}, {31, 0}, {0, 31}, {31, 31}};
        RingsUnder y = new RingsUnder();
        y.ring();
        for (int[] c : corners) {
            due("corner", y.cell(0, 3000, c[0], c[1], 0, 0) >= 0, true);
        }
        y.rules(0, 0, 0, 1, 0);
        y.months(1, 0);
        due("three places of each", y.area(), 12);
    }

    private static void sandAndReefAtFirst() {
        promise = "SAND (at first 0 .. 500 mm), REEF (at first 0 .. 400)";
        RingsUnder x = new RingsUnder();
        x.ring();
        x.cell(0, 0, 0, 0, 500, 400);
        x.cell(0, 0, 0, 0, 500, 400);
        x.wall(1, 1);
        x.table(0, 0, 0, 0, 50, 0);
        x.months(1, 0);
        due("sand above 500 later", x.cellOf(1, 2), 550);
        due("reef never above 400", x.cellOf(1, 3), 400);
        due("501 at first", new RingsUnder().cell(0, 0, 0, 0, 501, 0), NONE);
    }

    private static void top() {
        promise = "TOP: HEIGHT and SAND and REEF / 4 and WALL";
        int[] reefs = {0, 3, 4, 7, 8, 399, 400};
        int[] quarters = {0, 0, 1, 1, 2, 99, 100};
        for (int i = 0; i < reefs.length; i++) {
            RingsUnder x = new RingsUnder();
            x.ring();
            x.cell(0, -500, 0, 0, 7, reefs[i]);
            due("reef " + reefs[i], x.cellOf(0, 5), -493 + quarters[i]);
            x.wall(0, 1000);
            due("with a wall", x.cellOf(0, 5), 507 + quarters[i]);
        }
    }

    private static void levelsTold() {
        promise = "LEVELS by MONTHS (200 told ones at most): -1000 .. 5000 or no number";
        RingsUnder x = new RingsUnder();
        for (int i = 1; i <= 200; i++) {
            due("told", x.level(0, 5, i % 2 == 0, i), i);
        }
        due("a 201st", x.level(0, 5, true, 777), NONE);
        due("a 201st of another rise", x.level(2, 9, false, 0), NONE);
        due("two hundred", x.about(3), 200);
        due("the 200th counts", x.levelOf(0, 5, 0), 200);
        due("the 201st doesn't", x.levelOf(2, 9, 0), 0);
        RingsUnder y = new RingsUnder();
        due("least", y.level(0, 0, true, -1000), 1);
        due("greatest", y.level(0, 1, true, 5000), 2);
        due("least", y.levelOf(0, 0, 0), -1000);
        due("greatest", y.levelOf(0, 1, 0), 5000);
    }

    private static void toldInOrAhead() {
        promise = "of those for that MONTH TOLD in k or ahead the latest: if it is a number, that";
        RingsUnder x = new RingsUnder();
        x.level(0, 9, true, 10);
        x.level(0, 9, true, 20);
        x.months(3, 0);
        x.level(0, 9, true, 5);
        x.level(0, 2, true, 30);
        due("of two in one month the latest", x.levelOf(0, 9, 0), 20);
        due("k is one ahead", x.levelOf(0, 9, 2), 20);
        due("told in k", x.levelOf(0, 9, 3), 5);
        due("k is one behind", x.levelOf(0, 9, 4), 5);
        due("k is behind all months", x.levelOf(0, 9, 600), 5);
        due("of a month that is over", x.levelOf(0, 2, 3), 30);
        due("of a month that is over, ahead of that", x.levelOf(0, 2, 2), 20);
    }

    private static void noneTold() {
        promise = "if none was told: WORST: the greatest number TOLD for that RISE in k or ahead (0 without)";
        RingsUnder x = new RingsUnder();
        due("without", x.levelOf(0, 7, 0), 0);
        x.level(0, 6, false, 900);
        due("no number is none", x.levelOf(0, 7, 0), 0);
        x.months(1, 0);
        x.level(0, 6, true, -400);
        due("it was told behind k", x.levelOf(0, 7, 0), 0);
        due("it was told in k, below 0", x.levelOf(0, 7, 1), -400);
        x.level(0, 8, true, -1000);
        due("neighbours don't count, nor do the lesser", x.levelOf(0, 7, 1), -400);
        x.level(0, 599, true, -399);
        due("the greatest", x.levelOf(0, 7, 1), -399);
        due("of another rise", x.levelOf(1, 7, 1), 0);
    }

    private static void worst() {
        promise = "WORST: the greatest number TOLD, put right or not";
        RingsUnder x = new RingsUnder();
        x.level(0, 5, true, 900);
        x.level(0, 5, true, 100);
        due("as it was put right", x.levelOf(0, 5, 0), 100);
        due("it was told", x.levelOf(0, 9, 0), 900);
        x.level(0, 5, false, 0);
        due("no number, of neither: WORST", x.levelOf(0, 5, 0), 900);
    }

    private static void noNumber() {
        promise = "if it is no number: of the MONTH ahead and the one behind it those whose latest is a number";
        RingsUnder x = new RingsUnder();
        x.level(0, 5, false, 0);
        x.level(0, 3, true, 500);
        x.level(0, 7, true, 700);
        due("two months off doesn't count", x.levelOf(0, 5, 0), 700);
        x.level(0, 4, true, 40);
        due("the one ahead alone", x.levelOf(0, 5, 0), 40);
        x.level(0, 6, true, 61);
        due("both", x.levelOf(0, 5, 0), 50);
        x.months(1, 0);
        x.level(0, 4, false, 0);
        due("the one behind alone", x.levelOf(0, 5, 1), 61);
        due("both as known ahead", x.levelOf(0, 5, 0), 50);
        x.level(0, 6, false, 0);
        due("of neither", x.levelOf(0, 5, 1), 700);
        x.months(1, 0);
        x.level(0, 6, true, 62);
        due("a number again", x.levelOf(0, 5, 2), 62);
        due("not yet", x.levelOf(0, 5, 1), 700);
        x.level(0, 5, true, 8);
        due("itself a number", x.levelOf(0, 5, 2), 8);
    }

    private static void mean() {
        promise = "their mean, cut towards 0";
        int[][] rows = {{1, 2, 1}, {-1, -2, -1}, {-3, 0, -1}, {0, 3, 1}, {-1, 0, 0}, {1, -2, 0}, {-1000, -999, -999}, {5000, 4999, 4999},
            {-1000, 5000, 2000}, {5000, 5000, 5000}, {-1000, -1000, -1000}};
        for (int[] r : rows) {
            RingsUnder x = new RingsUnder();
            x.level(1, 4, true, r[0]);
            x.level(1, 5, false, 0);
            x.level(1, 6, true, r[1]);
            due("of " + r[0] + " and " + r[1], x.levelOf(1, 5, 0), r[2]);
        }
    }

    private static void firstAndLastMonth() {
        promise = "no number, in the first MONTH and in the last one";
        RingsUnder x = new RingsUnder();
        x.level(0, 0, false, 0);
        x.level(0, 599, false, 0);
        due("of neither, without any", x.levelOf(0, 0, 0), 0);
        x.level(0, 598, true, 98);
        due("nothing is ahead of the first but the last isn't either", x.levelOf(0, 0, 0), 98);
        x.level(0, 1, true, 11);
        due("the one behind the first", x.levelOf(0, 0, 0), 11);
        due("the one ahead of the last", x.levelOf(0, 599, 0), 98);
        x.level(0, 598, false, 0);
        due("the last, of neither", x.levelOf(0, 599, 0), 98);
    }

    private static void ofOneRise() {
        promise = "RISES 0 .. 2";
        RingsUnder x = new RingsUnder();
        for (int rise = 0; rise < 3; rise++) {
            x.level(rise, 5, true, 10 * rise);
            x.level(rise, 4, false, 0);
        }
        for (int rise = 0; rise < 3; rise++) {
            due("its own", x.levelOf(rise, 5, 0), 10 * rise);
            due("its neighbour", x.levelOf(rise, 4, 0), 10 * rise);
            due("its worst", x.levelOf(rise, 99, 0), 10 * rise);
        }
        due("rise -1", x.months(1, -1), NONE);
        due("rise 3", x.months(1, 3), NONE);
        due("rise 2", x.months(1, 2), 1);
    }

    private static void tablesByMonth() {
        promise = "TABLES by MONTH % 12";
        RingsUnder x = bare(0);
        x.wall(0, 100);
        for (int t = 0; t < 12; t++) {
            x.table(t, 0, t == 0 || t == 11 ? 99 : 100, 0, 0, 0);
        }
        for (int m = 0; m < 26; m++) {
            x.months(1, 0);
            due("dry in month " + m, x.cellOf(0, 10), m % 12 == 0 || m % 12 == 11 ? 1 : 0);
        }
    }

    private static void tablesAtFirst() {
        promise = "LOW and HIGH at first 0 and 500; WARM at first 25; DRIFT at first 5; RAIN at first 20";
        RingsUnder x = new RingsUnder();
        x.ring();
        x.cell(0, 501, 0, 0, 0, 0);
        x.cell(0, 500, 0, 0, 0, 0);
        x.cell(0, 1, 0, 0, 0, 0);
        x.cell(0, 0, 0, 0, 0, 0);
        x.cell(0, 3000, 0, 0, 500, 0);
        x.well(4, 1, 0, 0);
        x.rules(25, 1, 0, 1, 0);
        for (int t = 0; t < 12; t++) {
            x.rules(t % 2 == 0 ? 25 : 24, 0, 0, 1, 0);
            x.months(1, 0);
            due("dry at 501", x.cellOf(0, 10), 1);
            due("not at 500", x.cellOf(1, 10), 0);
            due("a rock at 1", x.cellOf(2, 11), 1);
            due("none at 0", x.cellOf(3, 11), 0);
            due("drift", x.cellOf(4, 2), 495 - 5 * t);
            due("rain", x.cellOf(4, 7), 20 * (t + 1));
        }
        for (int warm = 24; warm <= 25; warm++) {
            RingsUnder y = bare(0);
            y.rules(warm, 5, 50, 1, 0);
            for (int t = 1; t <= 12; t++) {
                y.months(1, 0);
                due("bears " + warm, y.cellOf(0, 3), warm == 25 ? 5 * t : 0);
            }
        }
    }

    private static void lowAndHigh() {
        promise = "LOW not above HIGH";
        RingsUnder x = bare(0);
        due("low is high", x.table(0, 500, 500, 0, 0, 0), true);
        due("above by one", x.table(0, 501, 500, 0, 0, 0), false);
        due("both least", x.table(0, 0, 0, 0, 0, 0), true);
        due("both greatest", x.table(0, 2000, 2000, 0, 0, 0), true);
        due("high beyond", x.table(0, 2000, 2001, 0, 0, 0), false);
        due("low below", x.table(0, -1, 0, 0, 0, 0), false);
        x.wall(0, 1000);
        x.level(0, 0, true, -1000);
        x.months(1, 0);
        due("1000 isn't above -1000 and 2000", x.cellOf(0, 10) + x.cellOf(0, 11), 0);
    }

    private static void rulesAtFirst() {
        promise = "BEAR, GROW, DIE at first 29, 1, 10; REACH at first 3; COST at first 5";
        RingsUnder x = new RingsUnder();
        x.ring();
        x.cell(0, 3000, 10, 10, 0, 100);
        x.wall(0, 1);
        x.table(0, 0, 500, 29, 0, 0);
        x.table(1, 0, 500, 30, 0, 0);
        x.months(1, 0);
        due("29 is borne", x.cellOf(0, 3), 101);
        due("reach 3", x.area(), 29);
        due("a tenth of 29 less 5", x.about(8), 2 - 5);
        x.months(1, 0);
        due("30 isn't", x.cellOf(0, 3), 91);
    }

    private static void dry() {
        promise = "DRY in a MONTH by a LEVEL: TOP is above LEVEL and HIGH";
        int[][] rows = {{600, 100, 0}, {601, 100, 1}, {500, 0, 0}, {501, 0, 1}, {-500, -1000, 0}, {-499, -1000, 1}, {3000, 2500, 0}, {3000, 2499, 1}};
        for (int[] r : rows) {
            RingsUnder x = bare(r[0]);
            x.level(0, 0, true, r[1]);
            x.months(1, 0);
            due("top " + r[0] + " at level " + r[1], x.cellOf(0, 10), r[2]);
            due("under", x.cellOf(0, 9), 1 - r[2]);
        }
    }

    private static void rock() {
        promise = "ROCK: above LEVEL and LOW";
        int[][] rows = {{150, 100, 50, 0}, {151, 100, 50, 1}, {0, 0, 0, 0}, {1, 0, 0, 1}, {-500, -500, 0, 0}, {-499, -500, 0, 1}};
        for (int[] r : rows) {
            RingsUnder x = bare(r[0]);
            x.level(0, 0, true, r[1]);
            x.table(0, r[2], 2000, 0, 0, 0);
            x.months(1, 0);
            due("top " + r[0] + " at level " + r[1], x.cellOf(0, 11), r[3]);
            due("dry", x.cellOf(0, 10), 0);
            due("area", x.area(), 5 * r[3]);
        }
    }
}
