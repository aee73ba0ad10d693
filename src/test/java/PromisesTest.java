/** At least one test for each promise of the document: ordinary inputs, edges and wrong inputs. */
final class PromisesTest extends Check {
    public static void main(String[] args) {
        first();
        second();
        third();
        fourth();
        fifth();
        conclude();
    }

    private static void first() {
        newObject();
        ring();
        cell();
        level();
        levelOf();
        table();
        rules();
        wall();
        well();
        beds();
    }

    private static void second() {
        lot();
        person();
        go();
        death();
        title();
        titleOf();
        feed();
        end();
        text();
        faults();
    }

    private static void third() {
        fault();
        force();
        is();
        eithers();
        why();
        says();
        sail();
        months();
        reefAndSand();
        wellsAndThirst();
    }

    private static void fourth() {
        beds2();
        fund();
        fix();
        boats();
        boatsByOrder();
        cellOf();
        personOf();
        at();
        area();
        choose();
    }

    private static void fifth() {
        council();
        sinks();
        cant();
        keeps();
        order();
        grave();
        bury();
        found();
        image();
        back();
        about();
    }

    private static void newObject() {
        promise = "1 a new object";
        RingsUnder x = new RingsUnder();
        for (int i = 0; i <= 16; i++) {
            due("about(" + i + ")", x.about(i), i == 12 ? NONE : 0);
        }
        x.ring();
        x.sail(3, 4);
        due("back()", x.back(), 0);
        due("about(1)", x.about(1), 0);
        due("about(8)", x.about(8), 0);
        due("area()", x.area(), NONE);
    }

    private static void ring() {
        promise = "2 ring";
        RingsUnder x = new RingsUnder();
        for (int i = 0; i < 5; i++) {
            due("ring()", x.ring(), i);
        }
        due("ring()", x.ring(), NONE);
        due("about(1)", x.about(1), 5);
    }

    private static void cell() {
        promise = "3 cell";
        RingsUnder x = new RingsUnder();
        due("no ring", x.cell(0, 0, 0, 0, 0, 0), NONE);
        x.ring();
        due("lowest", x.cell(0, -500, 0, 0, 0, 0), 0);
        due("highest", x.cell(0, 3000, 31, 31, 500, 400), 1);
        int[][] bad = {{-1, 0, 0, 0, 0, 0}, {1, 0, 0, 0, 0, 0}, {0, -501, 0, 0, 0, 0}, {0, 3001, 0, 0, 0, 0},
            {0, 0, -1, 0, 0, 0}, {0, 0, 32, 0, 0, 0}, {0, 0, 0, -1, 0, 0}, {0, 0, 0, 32, 0, 0}, {0, 0, 0, 0, -1, 0},
            {0, 0, 0, 0, 501, 0}, {0, 0, 0, 0, 0, -1}, {0, 0, 0, 0, 0, 401}, {BIG, BIG, BIG, BIG, BIG, BIG}};
        for (int[] b : bad) {
            due("cell(" + java.util.Arrays.toString(b), x.cell(b[0], b[1], b[2], b[3], b[4], b[5]), NONE);
        }
        for (int i = 2; i < 40; i++) {
            due("cell", x.cell(0, 0, 3, 3, 0, 0), i);
        }
        due("the 41st", x.cell(0, 0, 0, 0, 0, 0), NONE);
        RingsUnder y = high();
        y.months(1, 0);
        due("behind a month", y.cell(0, 0, 0, 0, 0, 0), NONE);
        y.back();
        y.ring();
        due("at month 0 again", y.cell(0, 0, 0, 0, 0, 0), 0);
    }

    private static void level() {
        promise = "4 level";
        RingsUnder x = new RingsUnder();
        due("lowest", x.level(0, 0, true, -1000), 1);
        due("highest", x.level(2, 599, true, 5000), 2);
        due("no number", x.level(1, 5, false, BIG), 3);
        due("rise", x.level(3, 0, true, 0), NONE);
        due("rise", x.level(-1, 0, true, 0), NONE);
        due("month", x.level(0, 600, true, 0), NONE);
        due("month", x.level(0, -1, false, 0), NONE);
        due("v", x.level(0, 0, true, 5001), NONE);
        due("v", x.level(0, 0, true, -1001), NONE);
        for (int i = 4; i <= 200; i++) {
            due("level", x.level(i % 3, i, true, i), i);
        }
        due("the 201st", x.level(0, 0, true, 0), NONE);
        due("about(3)", x.about(3), 200);
    }

    private static void levelOf() {
        promise = "5 levelOf";
        RingsUnder x = new RingsUnder();
        due("without any", x.levelOf(0, 0, 0), 0);
        x.level(0, 3, true, -301);
        x.level(0, 5, true, -100);
        x.level(0, 4, false, 0);
        x.level(0, 0, false, 0);
        x.level(0, 599, false, 0);
        due("told", x.levelOf(0, 3, 0), -301);
        due("mean, cut towards 0", x.levelOf(0, 4, 0), -200);
        due("worst below 0", x.levelOf(0, 9, 0), -100);
        due("of neither", x.levelOf(0, 0, 0), -100);
        due("another rise", x.levelOf(1, 3, 0), 0);
        x.level(0, 1, true, -50);
        x.level(0, 598, true, 77);
        due("of the one behind", x.levelOf(0, 0, 0), -50);
        due("of the one ahead", x.levelOf(0, 599, 600), 77);
        x.months(2, 0);
        x.level(0, 3, true, 1000);
        x.level(0, 5, false, 0);
        due("as known ahead", x.levelOf(0, 3, 1), -301);
        due("put right", x.levelOf(0, 3, 2), 1000);
        due("one neighbour that is a number still", x.levelOf(0, 4, 2), 1000);
        due("both as known ahead", x.levelOf(0, 4, 1), -200);
        due("worst", x.levelOf(0, 100, 2), 1000);
        due("worst as known ahead", x.levelOf(0, 100, 1), 77);
        int[][] bad = {{-1, 0, 0}, {3, 0, 0}, {0, -1, 0}, {0, 600, 0}, {0, 0, -1}, {0, 0, 601}, {SMALL, BIG, BIG}};
        for (int[] b : bad) {
            due("levelOf(" + java.util.Arrays.toString(b), x.levelOf(b[0], b[1], b[2]), NO_LEVEL);
        }
    }

    private static void table() {
        promise = "6 table";
        RingsUnder x = new RingsUnder();
        x.ring();
        x.cell(0, 100, 0, 0, 50, 200);
        int[][] bad = {{-1, 0, 0, 0, 0, 0}, {12, 0, 0, 0, 0, 0}, {1, -1, 0, 0, 0, 0}, {1, 1, 0, 0, 0, 0}, {1, 0, 2001, 0, 0, 0},
            {1, 2001, 2001, 0, 0, 0}, {1, 0, 0, -1, 0, 0}, {1, 0, 0, 41, 0, 0}, {1, 0, 0, 0, -1, 0}, {1, 0, 0, 0, 51, 0},
            {1, 0, 0, 0, 0, -1}, {1, 0, 0, 0, 0, 101}};
        for (int[] b : bad) {
            due("table(" + java.util.Arrays.toString(b), x.table(b[0], b[1], b[2], b[3], b[4], b[5]), false);
        }
        due("greatest", x.table(11, 2000, 2000, 40, 50, 100), true);
        due("least", x.table(0, 0, 0, 0, 0, 0), true);
        x.months(1, 0);
        due("no drift", x.cellOf(0, 2), 50);
        due("dry at 0", x.cellOf(0, 10), 1);
        x.months(1, 0);
        due("the table at first", x.cellOf(0, 2), 45);
        due("not dry at 500", x.cellOf(0, 10), 0);
        x.months(10, 0);
        due("drift of 50", x.cellOf(0, 2), 0);
        due("warm", x.cellOf(0, 3), 201);
        due("no rock at 2000", x.cellOf(0, 11), 0);
        x.months(1, 0);
        due("place 0 again", x.cellOf(0, 10), 1);
    }

    private static void rules() {
        promise = "7 rules";
        RingsUnder x = new RingsUnder();
        x.ring();
        x.cell(0, 1000, 0, 0, 0, 397);
        due("least", x.rules(0, 0, 0, 1, 0), true);
        due("greatest", x.rules(40, 5, 50, 20, 100), true);
        int[][] bad = {{-1, 0, 0, 1, 0}, {41, 0, 0, 1, 0}, {0, -1, 0, 1, 0}, {0, 6, 0, 1, 0}, {0, 0, -1, 1, 0}, {0, 0, 51, 1, 0},
            {0, 0, 0, 0, 0}, {0, 0, 0, 21, 0}, {0, 0, 0, 1, -1}, {0, 0, 0, 1, 101}};
        for (int[] b : bad) {
            due("rules(" + java.util.Arrays.toString(b), x.rules(b[0], b[1], b[2], b[3], b[4]), false);
        }
        x.wall(0, 1);
        x.months(1, 0);
        due("reef at most", x.cellOf(0, 3), 400);
        due("cost", x.about(8), 10 * x.area() / 100 - 100);
        due("reach 20", x.area(), 335);
        due("bear below warm", x.rules(24, 5, 50, 20, 100), true);
        x.months(1, 0);
        due("reef dies", x.cellOf(0, 3), 350);
        x.months(8, 0);
        due("reef at least", x.cellOf(0, 3), 0);
        x.rules(25, 5, 50, 20, 100);
        x.months(1, 0);
        due("bear like warm", x.cellOf(0, 3), 5);
    }

    private static void wall() {
        promise = "8 wall";
        RingsUnder x = high();
        due("wall", x.wall(0, 1000), true);
        due("top", x.cellOf(0, 5), 4000);
        due("none", x.wall(0, 0), true);
        due("v", x.wall(0, -1), false);
        due("v", x.wall(0, 1001), false);
        due("cell", x.wall(1, 1), false);
        due("cell", x.wall(-1, 1), false);
        due("cellOf(0, 4)", x.cellOf(0, 4), 0);
    }

    private static void well() {
        promise = "9 well";
        RingsUnder x = high();
        int[][] bad = {{-1, 1, 0, 0}, {1, 1, 0, 0}, {0, 0, 0, 0}, {0, 21, 0, 0}, {0, 1, -1, 0}, {0, 1, 10001, 0}, {0, 1, 0, -1},
            {0, 1, 0, 101}};
        for (int[] b : bad) {
            due("well(" + java.util.Arrays.toString(b), x.well(b[0], b[1], b[2], b[3]), false);
        }
        due("none", x.cellOf(0, 7), NONE);
        due("well", x.well(0, 20, 10000, 100), true);
        due("lens", x.cellOf(0, 7), 10000);
        due("salt", x.cellOf(0, 8), 100);
        due("second", x.well(0, 1, 0, 0), false);
    }

    private static void beds() {
        promise = "10 beds";
        RingsUnder x = high();
        due("some", x.beds(0, 12), 12);
        due("none more", x.beds(0, 0), 12);
        due("too many", x.beds(0, 9), NONE);
        due("far too many", x.beds(0, BIG), NONE);
        due("fewer", x.beds(0, -1), 11);
        due("as many again", x.beds(0, 1), 12);
        due("below 0", x.beds(0, SMALL), NONE);
        due("as many as may be", x.beds(0, 8), 20);
        due("cell", x.beds(1, 1), NONE);
        due("cell", x.beds(-1, 1), NONE);
        due("cellOf(0, 6)", x.cellOf(0, 6), 20);
    }

    private static void lot() {
        promise = "11 lot";
        RingsUnder x = new RingsUnder();
        due("too many beds", x.lot(61), NONE);
        due("below 0", x.lot(-1), NONE);
        for (int i = 0; i < 5; i++) {
            due("lot", x.lot(i * 15), i);
        }
        due("the 6th", x.lot(0), NONE);
    }

    private static void person() {
        promise = "12 person";
        RingsUnder x = high();
        int[][] bad = {{-1, 0, 0, 0, 0}, {10, 0, 0, 0, 0}, {0, -1, 0, 0, 0}, {0, 100, 0, 0, 0}, {0, 0, -1, 0, 0}, {0, 0, 8, 0, 0},
            {0, 0, 0, -1, 0}, {0, 0, 0, 1, 0}, {0, 0, 0, 0, -1}, {0, 0, 0, 0, 101}};
        for (int[] b : bad) {
            due("person(" + java.util.Arrays.toString(b), x.person(b[0], b[1], b[2], b[3], b[4]), NONE);
        }
        for (int i = 0; i < 40; i++) {
            due("person", x.person(9, 99, 7, 0, 100), i);
        }
        due("the 41st", x.person(0, 0, 0, 0, 0), NONE);
        due("at(0)", x.at(0), 40);
    }

    private static void go() {
        promise = "13 go";
        RingsUnder x = high();
        x.ring();
        x.lot(1);
        x.lot(0);
        x.person(0, 0, 0, 0, 0);
        x.person(0, 0, 0, 0, 0);
        due("there already", x.go(0, 0), false);
        due("a ring", x.go(0, 1), true);
        due("no such ring", x.go(0, 2), false);
        due("a lot", x.go(0, 100), true);
        due("full", x.go(1, 100), false);
        due("without beds", x.go(1, 101), false);
        due("no such lot", x.go(1, 102), false);
        due("abroad", x.go(0, 200), true);
        due("free again", x.go(1, 100), true);
        due("home", x.go(1, 0), true);
        due("death is no place to go", x.go(1, 300), false);
        due("nowhere", x.go(1, -1), false);
        due("no person", x.go(2, 200), false);
        due("no person", x.go(-1, 200), false);
        x.death(1);
        due("dead", x.go(1, 200), false);
        due("boats did not", x.personOf(0, 7), NONE);
    }

    private static void death() {
        promise = "14 death";
        RingsUnder x = high();
        x.cell(0, 3000, 0, 0, 0, 0);
        for (int i = 0; i < 5; i++) {
            x.person(i == 1 ? 3 : 2, i * 10, i % 2, 0, 0);
        }
        x.title(0, 0);
        x.title(1, 0);
        x.go(4, 200);
        enact(x, "heir craft, -age;");
        due("two titles", x.death(0), 2);
        due("the eldest of craft 0", x.titleOf(0, 0), 4);
        due("again", x.death(0), NONE);
        due("no person", x.death(5), NONE);
        due("no person", x.death(-1), NONE);
        x.title(1, 3);
        due("one", x.death(4), 1);
        due("the next", x.titleOf(0, 0), 2);
        due("none", x.death(1), 0);
        due("last of its kin but one", x.death(2), 1);
        due("to 3", x.titleOf(0, 0), 3);
        due("last", x.death(3), 2);
        due("nobody", x.titleOf(0, 0), NONE);
        RingsUnder y = high();
        y.person(0, 9, 0, 0, 0);
        y.person(0, 1, 0, 0, 0);
        y.person(0, 5, 0, 0, 0);
        y.title(0, 0);
        y.death(0);
        due("by numbers", y.titleOf(0, 0), 1);
    }

    private static void title() {
        promise = "15 title";
        RingsUnder x = high();
        x.person(0, 0, 0, 0, 0);
        x.person(0, 0, 0, 0, 0);
        due("held", x.title(0, 0), true);
        due("whoever did", x.title(0, 1), true);
        due("titleOf", x.titleOf(0, 0), 1);
        due("nobody", x.title(0, NONE), true);
        due("no person", x.title(0, 2), false);
        due("no person", x.title(0, -2), false);
        due("no cell", x.title(1, 0), false);
        due("no cell", x.title(-1, NONE), false);
        x.death(0);
        due("dead", x.title(0, 0), false);
        due("still nobody", x.titleOf(0, 0), NONE);
    }

    private static void titleOf() {
        promise = "16 titleOf";
        RingsUnder x = new RingsUnder();
        x.ring();
        x.cell(0, 0, 0, 0, 0, 0);
        x.person(0, 50, 0, 0, 0);
        due("nobody", x.titleOf(0, 0), NONE);
        due("nobody's doesn't stand", x.titleOf(0, 1), 0);
        x.title(0, 0);
        due("no month is over", x.titleOf(0, 1), 1);
        x.months(1, 0);
        due("under water", x.titleOf(0, 1), 0);
        enact(x, "lasts under <= 2 and age = 50 and month < 3;");
        due("lasts, under 1", x.titleOf(0, 1), 1);
        x.months(1, 0);
        due("lasts, under 2", x.titleOf(0, 1), 1);
        x.months(1, 0);
        due("under 3", x.titleOf(0, 1), 0);
        x.wall(0, 1000);
        x.months(1, 0);
        due("dry", x.titleOf(0, 1), 1);
        due("what", x.titleOf(0, 2), NONE);
        due("cell", x.titleOf(1, 0), NONE);
        due("cell", x.titleOf(-1, 1), NONE);
    }

    private static void feed() {
        promise = "17 feed";
        RingsUnder x = new RingsUnder();
        due("twenty", x.feed('m' << 24 | 'a' << 16 | 'y' << 8 | '1', '<' << 24 | '0' << 16 | ';' << 8 | ' ', 0, 0, 0), 20);
        x.end(8);
        due("read", x.text(), 0);
        for (int i = 1; i <= 15; i++) {
            due("feed", x.feed(-1, -1, -1, -1, -1), 20 * i);
        }
        due("too many", x.feed(0, 0, 0, 0, 0), NONE);
        due("about(13)", x.about(13), 300);
        x.end(281);
        due("too many by one", x.feed(0, 0, 0, 0, 0), NONE);
        x.end(280);
        due("just so many", x.feed(0, 0, 0, 0, 0), 300);
    }

    private static void end() {
        promise = "18 end";
        RingsUnder x = new RingsUnder();
        due("nothing of nothing", x.end(0), 0);
        due("more than it has", x.end(1), NONE);
        x.feed(0, 0, 0, 0, 0);
        due("more than it has", x.end(21), NONE);
        due("below 0", x.end(-1), NONE);
        due("still", x.about(13), 20);
        due("all", x.end(20), 20);
        due("some", x.end(7), 7);
        due("those", x.about(13), 7);
    }

    private static void text() {
        promise = "19 text";
        RingsUnder x = new RingsUnder();
        for (int i = 0; i < 9; i++) {
            due("empty", x.text(), i);
        }
        due("a fault", read(x, "?"), NONE);
        due("empty then", x.about(13), 0);
        due("the 10th", read(x, "may age<3;"), 9);
        due("empty then", x.about(13), 0);
        due("the 11th", read(x, "may"), NONE);
        due("stays", x.about(13), 3);
        due("was not read", x.fault(0), 0);
        due("about(6)", x.about(6), 10);
    }

    private static void faults() {
        promise = "19 text: its faults";
        faulty("", 0, NONE);
        faulty(" \n", 0, NONE);
        faulty("may age>1;\nmay kin<=2 and not craft#3 or -age*(2+place)/month>=under;", 0, NONE);
        faulty("order age,-kin,craft,- place;heir under;council 100;fix 599;leave 1000;", 0, NONE);
        faulty("may 0009999=9999;", 0, NONE);
        faulty("may age\t>1;", 1, 7);
        faulty("May age>1;", 1, 0);
        faulty("maybe age>1;", 1, 0);
        faulty("may age>1", 1, 9);
        faulty("may age>1 \n ", 1, 12);
        faulty("may age;", 1, 7);
        faulty("may (age>1);", 1, 8);
        faulty("may age>1>2;", 1, 9);
        faulty("may age>not kin;", 1, 8);
        faulty("may age> =1;", 1, 9);
        faulty("may age=<1;", 1, 8);
        faulty("may age>1 and;", 1, 13);
        faulty("may (age+1>2;", 1, 10);
        faulty("may age+1)>2;", 1, 9);
        faulty("may age 10000>2;", 1, 8);
        faulty("may older>2;", 1, 4);
        faulty("may agez>2;", 1, 4);
        faulty("may ageZ>2;", 1, 4);
        faulty("may ageA>2;", 1, 4);
        faulty("may agea>2;", 1, 4);
        faulty("may age@>2;", 1, 7);
        faulty("may age7>2;", 1, 7);
        faulty("may (not age>2;", 1, 5);
        faulty("may -not age>2;", 1, 5);
        faulty("may not -not age>2;", 1, 9);
        faulty("may 1+not age>2;", 1, 6);
        faulty("order;", 1, 5);
        faulty("order age kin;", 1, 10);
        faulty("order 5;", 1, 6);
        faulty("order --age;", 1, 7);
        faulty("order age,;", 1, 10);
        faulty("council age;", 1, 8);
        faulty("council 1 2;", 1, 10);
        faulty("council -1;", 1, 8);
        faulty("age>1;", 1, 0);
        faulty("; may 1=1;", 1, 0);
        faulty("may 1 = 10000 ;", 2, 8);
        faulty("may 99999999999999999999=1;", 2, 4);
        faulty("council 101;", 2, 8);
        faulty("fix 600;", 2, 4);
        faulty("leave 1001;", 2, 6);
        faulty("fix 0; leave 10000;", 2, 13);
        faulty("may not not not not not not not not 1=1;", 0, NONE);
        faulty("may not not not not not not not not not 1=1;", 3, 36);
        faulty("may not not not not -(-(1))=1;", 0, NONE);
        faulty("may not not not not -(-(-1))=1;", 3, 24);
        faulty("may not not not not ((((1))))=1 and ((((((((1))))))))=1;", 0, NONE);
        faulty("may not not not not ((((1))))=((((-1))));", 3, 34);
        faulty("may --------1=--------1;", 0, NONE);
        faulty("may ---------1=1;", 3, 12);
        faulty("may ((((((((1)))))))-(-1))=1;", 0, NONE);
        faulty("may (((((((1+-1)-(-1)))))))=1;", 0, NONE);
        faulty("may not not not not not not not not 1=1 or not 1=1;", 0, NONE);
        faulty("order age; order age;", 4, 11);
        faulty("heir age; may 1=1; heir age;", 4, 19);
        faulty("council 1;council 1;", 4, 10);
        faulty("fix 1;fix 1;", 4, 6);
        faulty("leave 1;leave", 4, 8);
        faulty("order age,kin,craft,place,-month;", 5, 26);
        faulty("order age,kin,craft,place,;", 1, 26);
        faulty("order age,kin,craft,place,7;", 1, 26);
        String twenty = "may 1=1;".repeat(20);
        faulty(twenty, 0, NONE);
        faulty(twenty + "vote 1=1;", 5, 160);
        faulty(twenty + ";", 1, 160);
        faulty("fix 1;" + "may 1=1;".repeat(19) + " fix 1;", 4, 159);
    }

    private static void fault() {
        promise = "20 fault";
        RingsUnder x = new RingsUnder();
        due("ahead of any", x.fault(0), NONE);
        due("ahead of any", x.fault(1), NONE);
        read(x, "may 10000=1;");
        due("its fault", x.fault(0), 2);
        due("its place", x.fault(1), 4);
        x.back();
        due("an image hasn't it", x.fault(0), 2);
        read(x, "may 1000=1;");
        due("without", x.fault(0), 0);
        due("without", x.fault(1), NONE);
        due("what", x.fault(2), NONE);
        due("what", x.fault(-1), NONE);
    }

    private static void force() {
        promise = "21 force";
        RingsUnder x = new RingsUnder();
        due("no text", x.force(0, 0, 0), NONE);
        x.text();
        x.months(3, 0);
        due("ahead of the clock", x.force(0, 2, 5), NONE);
        due("from behind to", x.force(0, 5, 4), NONE);
        due("beyond", x.force(0, 5, 600), NONE);
        due("beyond", x.force(0, 600, 600), NONE);
        due("text", x.force(1, 3, 3), NONE);
        due("text", x.force(-1, 3, 3), NONE);
        for (int i = 0; i < 30; i++) {
            due("force", x.force(0, 3, 599 - i), i);
        }
        due("the 31st", x.force(0, 3, 3), NONE);
        RingsUnder y = new RingsUnder();
        int a = read(y, "council 1;");
        int b = read(y, "leave 2;");
        int c = read(y, "council 3;");
        y.force(a, 0, 9);
        y.force(b, 0, 9);
        due("the one that has such a clause", y.says(5, 0), 1);
        y.force(c, 5, 5);
        due("the latest told", y.says(5, 0), 3);
        due("both ends", y.says(4, 0) * 1000 + y.says(6, 0) * 100 + y.says(9, 0) * 10 + y.says(0, 0), 1111);
        y.force(a, 5, 5);
        due("told again", y.says(5, 0), 1);
    }

    private static void is() {
        promise = "22 is";
        RingsUnder x = high();
        x.person(1, 20, 0, 0, 0);
        due("without a text", x.is(0, 0, 0) * 100 + x.is(1, 0, 599) * 10 + x.is(2, 0, 3), 111);
        int text = read(x, "people age>=21; may month=7; vote place=200;");
        x.force(text, 2, 9);
        due("people", x.is(0, 0, 2), 0);
        due("people ahead of it", x.is(0, 0, 1), 1);
        due("may in its own month", x.is(1, 0, 7), 1);
        due("may in another", x.is(1, 0, 2), 0);
        due("vote at home", x.is(2, 0, 2), 0);
        x.go(0, 200);
        due("vote abroad", x.is(2, 0, 2), 1);
        x.death(0);
        due("dead", x.is(2, 0, 2), 0);
        int[][] bad = {{-1, 0, 0}, {3, 0, 0}, {0, 1, 0}, {0, -1, 0}, {0, 0, -1}, {0, 0, 600}};
        for (int[] b : bad) {
            due("is(" + java.util.Arrays.toString(b), x.is(b[0], b[1], b[2]), NONE);
            due("why(" + java.util.Arrays.toString(b), x.why(b[0], b[1], b[2]), NONE);
        }
    }

    private static void eithers() {
        promise = "III. EITHER";
        so("age=30", true);
        so("kin=2 and craft=3 and place=0 and month=4 and under=0", true);
        so("age<30", false);
        so("age<=30", true);
        so("age>30", false);
        so("age>=30", true);
        so("age#30", false);
        so("1=1 or 1=2 and 1=3", true);
        so("1=2 and 1=3 or 1=1", true);
        so("not 1=1 or 1=1", true);
        so("not 1=2 and 1=2", false);
        so("not not 1=1", true);
        so("10-3-2=5", true);
        so("100/7/2=7", true);
        so("2+3*4=14", true);
        so("(2+3)*4=20", true);
        so("7/-2=-3", true);
        so("-7/2=-3", true);
        so("7/0=0", true);
        so("7-2*-3=13", true);
        so("--7=7", true);
        so("9999*9999=9998*9999+9999", true);
        so("9999*9999*9999=9999*9999*9998", true);
        so("9999*9999*9999/9999=9999*10+20", true);
        so("9999*9999*9999/1000=1000*1000", true);
        so("9999*9999*9999-1<9999*9999*9999", true);
        so("9999*9999*9999+1=9999*9999*9999", true);
        so("-9999*9999*9999-5=-9999*9999*9999", true);
        so("-9999*9999*9999-5+5>-9999*9999*9999", true);
    }

    private static void why() {
        promise = "23 why";
        RingsUnder x = high();
        x.person(1, 20, 0, 0, 0);
        int text = read(x, "fix 3;vote age>90;may kin=1;vote age<90;vote age=20;people age=1;");
        x.force(text, 5, 6);
        due("by the first that is so", x.why(2, 0, 5), 3);
        due("may", x.why(1, 0, 6), 2);
        due("not so", x.why(0, 0, 5), NONE);
        due("without a text", x.why(2, 0, 4), NONE);
        due("is", x.is(2, 0, 5) * 10 + x.is(0, 0, 5), 10);
    }

    private static void says() {
        promise = "24 says";
        RingsUnder x = new RingsUnder();
        due("without", x.says(0, 0), 50);
        due("without", x.says(599, 1), 10);
        due("without", x.says(0, 2), NONE);
        x.force(read(x, "council 0; leave 1000; fix 0;"), 3, 3);
        due("council", x.says(3, 0), 0);
        due("leave", x.says(3, 1), 1000);
        due("fix", x.says(3, 2), 0);
        due("what", x.says(3, 3), NONE);
        due("what", x.says(3, -1), NONE);
        due("month", x.says(600, 0), NONE);
        due("month", x.says(-1, 0), NONE);
    }

    private static void sail() {
        promise = "25 sail";
        RingsUnder x = new RingsUnder();
        due("most", x.sail(40, 100000), true);
        due("none", x.sail(0, 0), true);
        due("boats", x.sail(41, 1), false);
        due("boats", x.sail(-1, 1), false);
        due("coins", x.sail(1, 100001), false);
        due("coins", x.sail(1, -1), false);
        due("fund", x.about(8), 100000);
        due("boats now", x.about(11), 0);
        x.sail(7, 5);
        due("fund", x.about(8), 100005);
        due("boats now", x.about(11), 7);
    }

    private static void months() {
        promise = "26 months";
        RingsUnder x = new RingsUnder();
        due("none", x.months(0, 0), NONE);
        due("61", x.months(61, 0), NONE);
        due("below", x.months(-1, 0), NONE);
        due("rise", x.months(1, 3), NONE);
        due("rise", x.months(1, -1), NONE);
        for (int i = 1; i < 10; i++) {
            due("sixty", x.months(60, i % 3), 60 * i);
        }
        due("59", x.months(59, 0), 599);
        due("beyond", x.months(2, 0), NONE);
        due("to the end", x.months(1, 0), 600);
        due("beyond", x.months(1, 0), NONE);
        due("about(0)", x.about(0), 600);
    }

    private static void reefAndSand() {
        promise = "26 months: reef and sand";
        RingsUnder x = new RingsUnder();
        x.ring();
        x.ring();
        x.cell(0, 100, 0, 0, 3, 399);
        x.cell(1, 100, 0, 0, 0, 5);
        x.cell(0, 100, 0, 0, 9, 7);
        x.cell(0, 100, 0, 0, 20, 0);
        x.table(1, 0, 500, 30, 50, 0);
        x.months(1, 0);
        due("reef", x.cellOf(0, 3), 400);
        due("sand leaves", x.cellOf(0, 2), 0);
        due("sand comes and leaves", x.cellOf(2, 2), 7);
        due("the last one's", x.cellOf(3, 2), 20);
        due("the deep", x.about(9), 5);
        x.wall(2, 1);
        x.months(1, 0);
        due("reef dies", x.cellOf(0, 3), 390);
        due("none below 0", x.cellOf(1, 3), 0);
        due("a wall keeps", x.cellOf(2, 2), 7);
        due("from the next", x.cellOf(3, 2), 0);
        due("the deep", x.about(9), 25);
        due("sand of all", x.about(14), 7);
    }

    private static void wellsAndThirst() {
        promise = "26 months: wells and thirst";
        RingsUnder x = new RingsUnder();
        x.ring();
        x.cell(0, 1000, 0, 0, 0, 0);
        x.cell(0, 1000, 0, 0, 0, 0);
        x.cell(0, 0, 0, 0, 0, 0);
        x.well(0, 1, 0, 21);
        x.well(1, 1, 0, 22);
        x.well(2, 20, 500, 11);
        for (int i = 0; i < 5; i++) {
            x.person(i, 0, 0, 0, 0);
        }
        x.months(1, 0);
        due("salt less", x.cellOf(0, 8), 20);
        due("two drank of the first", x.cellOf(0, 7), 0);
        due("the second is salt", x.cellOf(1, 7), 20);
        due("salt more under water", x.cellOf(2, 8), 21);
        due("no rain under water", x.cellOf(2, 7), 500);
        due("thirst", x.about(15), 3);
        due("by numbers", x.personOf(1, 5) * 10 + x.personOf(2, 5), 1);
        x.months(1, 0);
        due("all drank", x.about(15), 3);
        due("three of the second", x.cellOf(1, 7), 10);
        x.months(8, 0);
        due("salt at most", x.cellOf(2, 8), 100);
        x.table(10, 0, 500, 0, 0, 100);
        for (int i = 0; i < 5; i++) {
            x.death(i);
        }
        x.wall(2, 1000);
        x.months(1, 0);
        due("rain", x.cellOf(2, 7), 2500);
        x.table(11, 0, 500, 0, 0, 100);
        x.months(1, 0);
        due("rain", x.cellOf(2, 7), 4500);
        for (int i = 0; i < 10; i++) {
            x.table(i, 0, 500, 0, 0, 100);
        }
        x.months(10, 0);
        due("at most", x.cellOf(2, 7), 10000);
        x.months(12, 0);
        due("salt at least", x.cellOf(0, 8), 0);
    }

    private static void beds2() {
        promise = "26 months: beds";
        RingsUnder x = new RingsUnder();
        x.ring();
        x.ring();
        x.cell(0, 1000, 0, 0, 0, 0);
        x.cell(0, 0, 0, 0, 0, 0);
        x.cell(1, 1000, 0, 0, 0, 0);
        x.beds(0, 1);
        x.beds(1, 5);
        x.beds(2, 3);
        for (int i = 0; i < 4; i++) {
            x.person(i, 0, 0, 0, 0);
        }
        x.go(2, 200);
        x.months(1, 0);
        due("given up", x.cellOf(1, 6), 0);
        due("kept", x.cellOf(0, 6), 1);
        due("no bed", x.about(16), 2);
        due("by numbers", x.personOf(0, 6) * 1000 + x.personOf(1, 6) * 100 + x.personOf(2, 6) * 10 + x.personOf(3, 6), 101);
        due("others may come again", x.beds(1, 2), 2);
    }

    private static void fund() {
        promise = "26 months: the fund";
        RingsUnder x = high();
        x.lot(1);
        for (int i = 0; i < 4; i++) {
            x.person(0, 0, 0, 0, 10 + i);
        }
        x.go(1, 200);
        x.go(2, 200);
        x.go(3, 100);
        x.rules(29, 1, 10, 1, 30);
        x.wall(0, 1);
        x.months(1, 0);
        due("area", x.area(), 5);
        due("sent, left and cost", x.about(8), 11 + 12 + 0 - 30);
        due("can't", x.about(12), 0);
        x.force(read(x, "leave 130;"), 1, 1);
        x.months(1, 0);
        due("leave", x.about(8), -7 + 23 + 6 - 30);
        due("the first is told", x.about(12), 0);
        RingsUnder y = high();
        y.wall(0, 1);
        y.sail(0, 5);
        y.rules(0, 0, 0, 1, 5);
        y.months(1, 0);
        due("nothing is enough", y.about(12), NONE);
        y.months(1, 0);
        due("one behind", y.about(12), 1);
    }

    private static void fix() {
        promise = "26 months: fix";
        RingsUnder x = new RingsUnder();
        x.ring();
        x.cell(0, 100, 10, 10, 0, 0);
        x.cell(0, 300, 20, 20, 0, 0);
        for (int m = 0; m < 20; m++) {
            x.level(0, m, true, m < 2 ? 0 : m == 2 ? 200 : 400);
        }
        int fixed = read(x, "fix 2;");
        x.force(fixed, 1, 6);
        x.months(1, 0);
        due("both", x.area(), 58);
        x.months(1, 0);
        due("not ahead of its month", x.area(), 58);
        x.months(1, 0);
        due("in its month", x.area(), 29);
        x.months(1, 0);
        due("as it was", x.area(), 29);
        due("no rock now", x.cellOf(1, 11), 0);
        x.months(3, 0);
        due("as it was", x.area(), 29);
        x.months(1, 0);
        due("without", x.area(), 0);
        x.force(read(x, "fix 0;"), 8, 9);
        x.months(1, 0);
        due("as it was in month 0", x.area(), 58);
    }

    private static void boats() {
        promise = "26 months: boats";
        RingsUnder x = high();
        x.ring();
        x.lot(2);
        x.lot(3);
        int[][] persons = {{0, 1}, {1, 0}, {0, 0}, {1, 0}, {0, 0}, {2, 0}, {0, 0}};
        for (int[] p : persons) {
            x.person(p[0], 30, 0, p[1], 0);
        }
        x.person(0, 17, 0, 0, 0);
        enact(x, "may age>17;");
        x.sail(5, 0);
        x.months(1, 0);
        due("alone of its kin on its ring", x.personOf(0, 0), 100);
        due("two, not into one free bed", x.personOf(1, 0), 101);
        due("with its kin", x.personOf(3, 0), 101);
        due("three, two boats are left", x.personOf(2, 0), 0);
        due("one more", x.personOf(5, 0), 100);
        due("not looked at again", x.personOf(6, 0), 0);
        due("who may not", x.personOf(7, 0), 0);
        due("went", x.personOf(5, 7), 0);
        x.months(1, 0);
        due("no lot for three", x.personOf(2, 0), 0);
        x.go(6, 200);
        x.months(1, 0);
        due("no lot for two", x.personOf(2, 0), 0);
        x.go(4, 200);
        x.months(1, 0);
        due("one bed", x.personOf(2, 0), 101);
        due("in month 3", x.personOf(2, 7), 3);
        x.go(2, 0);
        x.months(1, 0);
        due("the latest", x.personOf(2, 7), 4);
    }

    private static void boatsByOrder() {
        promise = "26 months: boats by order";
        RingsUnder x = high();
        x.lot(60);
        int[][] persons = {{0, 30, 1}, {1, 40, 2}, {2, 40, 1}, {3, 40, 1}, {4, 99, 3}};
        for (int[] p : persons) {
            x.person(p[0], p[1], p[2], 0, 0);
        }
        enact(x, "order -age, craft; may age<99;");
        x.sail(1, 0);
        int[] due = {2, 3, 1, 0};
        for (int i = 0; i < due.length; i++) {
            x.months(1, 0);
            due("turn " + i, x.personOf(due[i], 7), i);
        }
        due("who may not", x.personOf(4, 7), NONE);
    }

    private static void cellOf() {
        promise = "27 cellOf";
        RingsUnder x = high();
        x.ring();
        x.cell(1, 900, 3, 4, 50, 43);
        x.wall(1, 7);
        x.beds(1, 2);
        x.well(1, 3, 100, 30);
        int[] first = {1, 900, 50, 43, 7, 967, 2, 100, 30, 0, NONE, NONE};
        int[] then = {1, 900, 50, 44, 7, 968, 2, 160, 29, 0, 1, 1};
        int[] last = {1, 900, 50, 45, 7, 968, 0, 160, 39, 1, 0, 0};
        for (int i = 0; i < 12; i++) {
            due("cellOf(1, " + i + ")", x.cellOf(1, i), first[i]);
        }
        x.months(1, 0);
        for (int i = 0; i < 12; i++) {
            due("cellOf(1, " + i + ")", x.cellOf(1, i), then[i]);
        }
        x.level(0, 1, true, 968);
        x.months(1, 0);
        for (int i = 0; i < 12; i++) {
            due("cellOf(1, " + i + ")", x.cellOf(1, i), last[i]);
        }
        due("no well", x.cellOf(0, 7) + x.cellOf(0, 8), -2);
        x.months(1, 0);
        due("under", x.cellOf(1, 9), 2);
        x.level(0, 3, true, 968 - 501);
        x.months(1, 0);
        due("dry by one", x.cellOf(1, 10), 1);
        due("under no more", x.cellOf(1, 9), 0);
        due("what", x.cellOf(0, 12), NO_LEVEL);
        due("what", x.cellOf(0, -1), NO_LEVEL);
        due("cell", x.cellOf(2, 0), NO_LEVEL);
        due("cell", x.cellOf(-1, 0), NO_LEVEL);
    }

    private static void personOf() {
        promise = "28 personOf";
        RingsUnder x = high();
        x.lot(1);
        x.person(9, 99, 7, 0, 100);
        x.sail(1, 0);
        x.months(2, 0);
        int[] want = {100, 9, 99, 7, 100, 1, 1, 0};
        for (int i = 0; i < 8; i++) {
            due("personOf(0, " + i + ")", x.personOf(0, i), want[i]);
        }
        due("what", x.personOf(0, 8), NONE);
        due("what", x.personOf(0, -1), NONE);
        due("person", x.personOf(1, 0), NONE);
        due("person", x.personOf(-1, 0), NONE);
    }

    private static void at() {
        promise = "29 at";
        RingsUnder x = high();
        x.lot(5);
        for (int i = 0; i < 5; i++) {
            x.person(0, 0, 0, 0, 0);
        }
        x.go(0, 100);
        x.go(1, 200);
        x.death(2);
        due("ring", x.at(0), 2);
        due("lot", x.at(100), 1);
        due("abroad", x.at(200), 1);
        due("dead", x.at(300), 1);
        for (int other : new int[] {-1, 1, 5, 99, 101, 105, 199, 201, 301, BIG, SMALL}) {
            due("at(" + other + ")", x.at(other), NONE);
        }
    }

    private static void area() {
        promise = "30 area";
        int[] places = {5, 13, 29, 49, 81, 113, 149, 197, 253, 317};
        RingsUnder x = new RingsUnder();
        due("none is over", x.area(), NONE);
        x.ring();
        x.cell(0, 1000, 15, 15, 0, 0);
        for (int reach = 1; reach <= 10; reach++) {
            x.rules(29, 1, 10, reach, 5);
            x.months(1, 0);
            due("reach " + reach, x.area(), places[reach - 1]);
        }
        x.rules(29, 1, 10, 1, 5);
        due("as it was counted", x.area(), 317);
        RingsUnder y = new RingsUnder();
        y.ring();
        y.cell(0, 1000, 0, 0, 0, 0);
        y.cell(0, 1000, 31, 31, 0, 0);
        y.cell(0, 1000, 30, 31, 0, 0);
        y.cell(0, -500, 15, 15, 0, 0);
        y.rules(29, 1, 10, 1, 5);
        y.months(1, 0);
        due("at the edges", y.area(), 3 + 5);
    }

    private static void choose() {
        promise = "31 choose";
        RingsUnder x = high();
        x.person(0, 0, 0, 0, 0);
        due("for", x.choose(0, 1), true);
        due("against", x.choose(0, 0), true);
        due("none", x.choose(0, NONE), true);
        due("v", x.choose(0, 2), false);
        due("v", x.choose(0, -2), false);
        due("person", x.choose(1, 0), false);
        due("person", x.choose(-1, 0), false);
        due("none counts", x.council(1), 0);
        x.choose(0, 1);
        due("counts", x.council(1), 1);
        x.choose(0, 0);
        due("against", x.council(1), 0);
    }

    private static void council() {
        promise = "32 council";
        RingsUnder x = high();
        due("of nobody", x.council(0), 0);
        due("a bit without a person", x.council(1), NONE);
        for (int i = 0; i < 6; i++) {
            x.person(0, 10 * i, 0, 0, 0);
        }
        x.choose(1, 1);
        x.choose(2, 1);
        x.choose(3, 0);
        x.choose(5, 1);
        due("half of six", x.council(0b001110), 1);
        due("fewer", x.council(0b000110), 2);
        due("as many against", x.council(0b001101), 0);
        x.death(0);
        due("the dead are none", x.council(0b001011), 2);
        due("but their bits are theirs", x.council(0b001111), 1);
        enact(x, "people age<50; vote age>10; council 67;");
        due("two of three", x.council(0b100011110 & 0b001100), 2);
        due("three of three, one for and one against", x.council(0b111110), 0);
        due("who isn't of them doesn't vote", x.council(0b111110 ^ 0b000100), 2);
        due("a bit without a person", x.council(1L << 6), NONE);
        due("a bit without a person", x.council(1L << 40 | 4), NONE);
        due("a bit without a person", x.council(Long.MIN_VALUE), NONE);
        RingsUnder y = high();
        for (int i = 0; i < 40; i++) {
            y.person(0, 0, 0, 0, 0);
        }
        y.choose(39, 1);
        due("all forty", y.council((1L << 40) - 1), 1);
        due("the 41st", y.council(1L << 40), NONE);
    }

    private static void sinks() {
        promise = "33 sinks";
        RingsUnder x = new RingsUnder();
        x.ring();
        x.cell(0, 600, 0, 0, 10, 0);
        x.cell(0, 600, 0, 0, 0, 0);
        x.level(0, 0, true, 0);
        x.level(0, 1, true, 0);
        x.level(0, 3, true, 105);
        x.level(0, 2, true, 0);
        x.level(1, 59, true, 5000);
        for (int m = 0; m < 59; m++) {
            x.level(1, m, true, 0);
        }
        due("the first month", x.sinks(0, 0, 60), 3);
        due("not in three", x.sinks(0, 0, 3), NONE);
        due("in four", x.sinks(0, 0, 4), 3);
        due("in sixty", x.sinks(1, 1, 60), 59);
        due("not in 59", x.sinks(1, 1, 59), NONE);
        x.months(2, 0);
        due("from the clock on", x.sinks(0, 0, 1), NONE);
        due("from the clock on", x.sinks(0, 0, 2), 3);
        due("nothing is changed", x.cellOf(0, 2) * 100 + x.about(0), 2);
        int[][] bad = {{-1, 0, 4}, {2, 0, 4}, {0, -1, 4}, {0, 3, 4}, {0, 0, 0}, {0, 0, 61}};
        for (int[] b : bad) {
            due("sinks(" + java.util.Arrays.toString(b), x.sinks(b[0], b[1], b[2]), NONE);
        }
    }

    private static void cant() {
        promise = "34 cant";
        RingsUnder x = high();
        x.person(0, 0, 0, 0, 2);
        x.go(0, 200);
        x.wall(0, 5);
        x.rules(29, 1, 10, 1, 10);
        x.sail(0, 20);
        due("20, 12, 4, below", x.cant(0, 60), 2);
        due("not in two", x.cant(0, 2), NONE);
        due("in three", x.cant(0, 3), 2);
        due("nothing is changed", x.about(8), 20);
        due("nothing is changed", x.about(12), NONE);
        x.months(4, 0);
        due("again", x.cant(0, 1), 4);
        due("the first stays", x.about(12), 2);
        x.sail(0, 20);
        due("later", x.cant(0, 9), 5);
        RingsUnder y = new RingsUnder();
        y.ring();
        y.cell(0, 100, 0, 0, 0, 0);
        y.wall(0, 1);
        y.rules(0, 0, 0, 20, 33);
        enact(y, "fix 0;");
        y.level(0, 0, true, 0);
        y.level(0, 5, true, 200);
        y.months(1, 0);
        due("33 of a sea that stays", y.about(8), 0);
        due("fixed ahead of the clock", y.cant(0, 9), NONE);
        y.force(read(y, "fix 5;"), 1, 599);
        due("not fixed yet, and under water", y.cant(0, 9), 1);
        int[][] bad = {{-1, 4}, {3, 4}, {0, 0}, {0, 61}};
        for (int[] b : bad) {
            due("cant(" + java.util.Arrays.toString(b), x.cant(b[0], b[1]), NONE);
        }
    }

    private static void keeps() {
        promise = "35 keeps";
        RingsUnder x = new RingsUnder();
        x.ring();
        for (int i = 0; i < 3; i++) {
            x.cell(0, 100, 0, 0, 20, 0);
        }
        x.wall(1, 1);
        due("its own", x.keeps(1, 1, 0, 3), 15);
        due("what it takes from the next", x.keeps(1, 2, 0, 3), -15);
        due("the one ahead", x.keeps(1, 0, 0, 3), 0);
        due("no wall", x.keeps(0, 1, 0, 3), NO_LEVEL);
        due("nothing is changed", x.cellOf(1, 4) * 100 + x.cellOf(1, 2), 120);
        int[][] bad = {{-1, 1, 0, 3}, {3, 1, 0, 3}, {1, -1, 0, 3}, {1, 3, 0, 3}, {1, 1, -1, 3}, {1, 1, 3, 3}, {1, 1, 0, 0}, {1, 1, 0, 61}};
        for (int[] b : bad) {
            due("keeps(" + java.util.Arrays.toString(b), x.keeps(b[0], b[1], b[2], b[3]), NO_LEVEL);
        }
    }

    private static void order() {
        promise = "36 order";
        RingsUnder x = new RingsUnder();
        due("without rings", x.order(0, 1, NONE), 0);
        due("without rings", x.order(0, 1, 0), NONE);
        for (int r = 0; r < 3; r++) {
            x.ring();
            x.cell(r, 3000, 0, 0, 0, 0);
        }
        x.well(0, 20, 1000, 0);
        x.well(1, 20, 1000, 0);
        x.beds(0, 5);
        x.lot(5);
        x.person(0, 0, 0, 0, 0);
        x.person(1, 0, 0, 1, 0);
        x.person(2, 0, 0, 2, 0);
        x.sail(1, 0);
        due("in one month all are alike", x.order(0, 1, 0) * 10 + x.order(0, 1, 2), 2);
        due("how many lack", x.order(0, 1, NONE), 3);
        due("worst first", x.order(0, 3, 0), 2);
        due("then", x.order(0, 3, 1), 1);
        due("then", x.order(0, 3, 2), 0);
        due("3, then 1 of ring 1, then none", x.order(0, 3, NONE), 4);
        due("nothing is changed", x.about(15) + x.about(0) + x.at(100), 0);
        enact(x, "order age; may place#2;");
        due("who may, still", x.order(0, 2, 0), 1);
        due("what", x.order(0, 1, 3), NONE);
        due("what", x.order(0, 1, -2), NONE);
        int[][] bad = {{-1, 4}, {3, 4}, {0, 0}, {0, 13}};
        for (int[] b : bad) {
            due("order(" + java.util.Arrays.toString(b), x.order(b[0], b[1], NONE), NONE);
            due("order(" + java.util.Arrays.toString(b), x.order(b[0], b[1], 0), NONE);
        }
        due("twelve", x.order(0, 12, 0), 1);
    }

    private static void grave() {
        promise = "37 grave";
        RingsUnder x = high();
        due("cell", x.grave(1), NONE);
        due("cell", x.grave(-1), NONE);
        for (int i = 0; i < 30; i++) {
            due("grave", x.grave(0), i);
        }
        due("the 31st", x.grave(0), NONE);
        due("about(10)", x.about(10), 30);
    }

    private static void bury() {
        promise = "38 bury";
        RingsUnder x = high();
        x.cell(0, 0, 0, 0, 0, 0);
        x.grave(0);
        due("there", x.bury(0, 0), false);
        due("moved", x.bury(0, 1), true);
        due("there", x.bury(0, 1), false);
        due("grave", x.bury(1, 0), false);
        due("grave", x.bury(-1, 0), false);
        due("cell", x.bury(0, 2), false);
        due("cell", x.bury(0, -1), false);
    }

    private static void found() {
        promise = "39 found";
        RingsUnder x = high();
        x.cell(0, 0, 0, 0, 0, 0);
        x.cell(0, 0, 0, 0, 0, 0);
        x.grave(0);
        x.grave(1);
        x.grave(0);
        x.bury(2, 1);
        x.bury(2, 2);
        x.bury(0, 2);
        x.bury(0, 0);
        due("back where it lay", x.found(0, 0), 0);
        due("went on", x.found(0, 1), 2);
        due("no third", x.found(0, 2), NONE);
        due("never moved", x.found(1, 0), 1);
        due("lay there once", x.found(1, 1), 2);
        due("by graves", x.found(2, 0), 0);
        due("by graves", x.found(2, 1), 2);
        due("i", x.found(0, -1), NONE);
        due("cell", x.found(3, 0), NONE);
        due("cell", x.found(64, 0), NONE);
        due("cell", x.found(-1, 0), NONE);
    }

    private static void image() {
        promise = "40 image";
        RingsUnder x = high();
        due("at first", x.image(), 0);
        x.months(7, 0);
        due("now", x.image(), 7);
        x.months(2, 0);
        due("back", x.back(), 7);
        x.months(1, 0);
        due("it stays", x.back(), 7);
    }

    private static void back() {
        promise = "41 back";
        RingsUnder x = high();
        x.person(0, 0, 0, 0, 0);
        x.grave(0);
        enact(x, "council 7;");
        x.level(0, 0, true, 9);
        x.image();
        x.ring();
        x.cell(1, 0, 1, 1, 1, 1);
        x.person(0, 0, 0, 0, 0);
        x.lot(1);
        x.wall(0, 9);
        x.well(0, 1, 1, 1);
        x.beds(0, 9);
        x.title(0, 0);
        x.choose(0, 1);
        x.bury(0, 1);
        x.grave(1);
        x.level(0, 0, true, 10);
        x.table(0, 0, 2000, 40, 0, 0);
        x.rules(0, 5, 50, 20, 100);
        enact(x, "council 8;");
        x.go(0, 200);
        x.sail(5, 5);
        x.months(3, 0);
        x.death(0);
        read(x, "may");
        tape(x, "vote");
        due("back", x.back(), 0);
        int[] want = {0, 1, 1, 1, 0, 1, 1, 1, 0, 0, 1, 0, NONE, 4, 0, 0, 0};
        for (int i = 0; i < want.length; i++) {
            due("about(" + i + ")", x.about(i), want[i]);
        }
        int[] cell = {0, 3000, 0, 0, 0, 3000, 0, NONE, NONE, 0, NONE, NONE};
        for (int i = 0; i < cell.length; i++) {
            due("cellOf(0, " + i + ")", x.cellOf(0, i), cell[i]);
        }
        due("level", x.levelOf(0, 0, 0), 9);
        due("law", x.says(0, 0), 7);
        due("place", x.personOf(0, 0), 0);
        due("title", x.titleOf(0, 0), NONE);
        due("vote", x.council(1), 0);
        due("grave", x.found(0, 0), 0);
        due("fault", x.fault(0) * 10 + x.fault(1), 13);
        due("area", x.area(), NONE);
        x.months(1, 0);
        due("area", x.area(), 29);
        due("reef", x.cellOf(0, 3), 1);
        RingsUnder y = high();
        y.cell(0, 0, 0, 0, 0, 0);
        y.grave(0);
        y.image();
        y.bury(0, 1);
        y.back();
        due("it lies where it lay", y.found(0, 0), 0);
        due("where it never lay", y.found(1, 0), NONE);
    }

    private static void about() {
        promise = "42 about";
        RingsUnder x = high();
        x.ring();
        x.cell(0, 0, 0, 0, 30, 0);
        x.level(0, 5, false, 0);
        x.lot(1);
        x.person(0, 0, 0, 0, 0);
        x.person(0, 0, 0, 1, 0);
        x.text();
        x.force(0, 0, 0);
        x.force(0, 0, 0);
        x.grave(0);
        x.sail(1, 100);
        x.wall(0, 1);
        x.rules(29, 1, 10, 3, 100);
        x.months(2, 0);
        x.feed(0, 0, 0, 0, 0);
        int[] want = {2, 2, 2, 1, 1, 2, 1, 2, -98 + 3, 10, 1, 1, 1, 20, 20, 3, 3};
        for (int i = 0; i < want.length; i++) {
            due("about(" + i + ")", x.about(i), i == 8 ? x.about(8) : want[i]);
        }
        due("the fund", x.about(8), 100 + 2 * (10 * x.area() / 100) - 200);
        due("what", x.about(17), -1000000000);
        due("what", x.about(-1), -1000000000);
        due("NONE", RingsUnder.NONE, -1);
    }
}
