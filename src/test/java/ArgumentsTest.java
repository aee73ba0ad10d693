import java.util.Arrays;
import java.util.function.Supplier;

/**
 * Each argument of each call at the least and the greatest that the document takes, and one beyond, and far
 * beyond: where a wrong one would be taken for a right one if it went through a byte or a short. A call
 * that is refused, and one that only asks, changes nothing that the country answers now or later.
 */
final class ArgumentsTest extends Check {
    private static final boolean CHANGES = false;
    private static final boolean ASKS = true;

    private interface Call {
        long on(RingsUnder x, int[] a);
    }

    private interface LongCall {
        long on(RingsUnder x, long a);
    }

    private static Supplier<RingsUnder> country;
    private static String before;

    public static void main(String[] args) {
        promise = "in month 0";
        in(Country::young);
        young();
        both(0);
        promise = "in month 4";
        in(Country::old);
        old();
        both(4);
        promise = "with a DEAD one";
        in(ArgumentsTest::mourning);
        dead();
        promise = "in month 600";
        in(ArgumentsTest::last);
        over();
        conclude();
    }

    private static void in(Supplier<RingsUnder> which) {
        country = which;
        before = Country.all(which.get());
        due("told again", Country.all(which.get()), before);
    }

    private static RingsUnder mourning() {
        RingsUnder x = Country.old();
        x.death(1);
        x.death(0);
        return x;
    }

    private static RingsUnder last() {
        RingsUnder x = Country.old();
        for (int i = 0; i < 9; i++) {
            x.months(60, 1);
        }
        x.months(56, 2);
        x.image();
        return x;
    }

    private static int is(boolean b) {
        return b ? 1 : 0;
    }

    /** Of each argument the least, a usual and the greatest one; the others are usual as one is looked at. */
    private static void bounds(String name, boolean asks, long refused, Call call, int[]... args) {
        for (int i = 0; i < args.length; i++) {
            int least = args[i][0];
            int usual = args[i][1];
            int greatest = args[i][2];
            taken(name, asks, refused, call, with(args, i, least));
            taken(name, asks, refused, call, with(args, i, usual));
            taken(name, asks, refused, call, with(args, i, greatest));
            long[] beyond = {least - 1L, greatest + 1L, SMALL, BIG, usual + 256L, usual - 256L, usual + 65536L, usual - 65536L,
                usual + (1L << 30), usual - (1L << 30)};
            for (long v : beyond) {
                if (v >= SMALL && v <= BIG && (v < least || v > greatest)) {
                    refused(name, refused, call, with(args, i, (int) v));
                }
            }
        }
    }

    private static int[] with(int[][] args, int at, int v) {
        int[] a = new int[args.length];
        for (int i = 0; i < a.length; i++) {
            a[i] = i == at ? v : args[i][1];
        }
        return a;
    }

    private static void taken(String name, boolean asks, long refused, Call call, int... a) {
        RingsUnder x = country.get();
        due(name + Arrays.toString(a) + " is taken", call.on(x, a) != refused, true);
        if (asks) {
            due("behind " + name + Arrays.toString(a), Country.all(x), before);
        }
    }

    private static void refused(String name, long refused, Call call, int... a) {
        RingsUnder x = country.get();
        due(name + Arrays.toString(a), call.on(x, a), refused);
        due("behind " + name + Arrays.toString(a), Country.all(x), before);
    }

    private static void refusedAll(String name, long refused, Call call, int[]... rows) {
        for (int[] a : rows) {
            refused(name, refused, call, a);
        }
    }

    private static int[] upTo(int least, int usual, int greatest) {
        return new int[] {least, usual, greatest};
    }

    private static int[] cells() {
        return upTo(0, 1, Country.CELLS - 1);
    }

    private static int[] persons() {
        return upTo(0, 3, Country.PERSONS - 1);
    }

    private static int[] rises() {
        return upTo(0, 0, 2);
    }

    private static int[] months() {
        return upTo(0, 7, 599);
    }

    private static void young() {
        bounds("cell", CHANGES, NONE, (x, a) -> x.cell(a[0], a[1], a[2], a[3], a[4], a[5]), upTo(0, 1, Country.RINGS - 1),
            upTo(-500, 100, 3000), upTo(0, 4, 31), upTo(0, 4, 31), upTo(0, 9, 500), upTo(0, 8, 400));
        refused("area", NONE, (x, a) -> x.area());
        taken("go", CHANGES, 0, (x, a) -> is(x.go(0, 100)));
    }

    private static void old() {
        refusedAll("cell", NONE, (x, a) -> x.cell(a[0], a[1], a[2], a[3], a[4], a[5]), new int[] {0, 100, 4, 4, 9, 8},
            new int[] {1, -500, 0, 0, 0, 0}, new int[] {2, -501, -1, -1, -1, -1});
        bounds("personOf", ASKS, NONE, (x, a) -> x.personOf(a[0], a[1]), persons(), upTo(0, 0, 7));
        taken("area", ASKS, NONE, (x, a) -> x.area());
        refused("go into a full LOT", 0, (x, a) -> is(x.go(0, 100)));
    }

    /** PERSON 0 is DEAD, and held the TITLE of CELL 0, which nobody holds now. */
    private static void dead() {
        refused("death", NONE, (x, a) -> x.death(0));
        refused("death", NONE, (x, a) -> x.death(1));
        refused("title", 0, (x, a) -> is(x.title(0, 0)));
        refused("title", 0, (x, a) -> is(x.title(1, 0)));
        for (int to : new int[] {0, 1, 100, 101, 200, 300, NONE}) {
            refused("go", 0, (x, a) -> is(x.go(0, a[0])), to);
        }
        taken("title", CHANGES, 0, (x, a) -> is(x.title(0, NONE)));
        taken("choose", CHANGES, 0, (x, a) -> is(x.choose(0, 1)));
        taken("council", ASKS, NONE, (x, a) -> x.council(3));
        taken("personOf", ASKS, NONE, (x, a) -> x.personOf(0, 0));
        taken("is", ASKS, NONE, (x, a) -> x.is(0, 0, 7));
        refused("titleOf", NONE, (x, a) -> x.titleOf(0, 0));
    }

    /** No MONTH comes any more. */
    private static void over() {
        refusedAll("months", NONE, (x, a) -> x.months(a[0], a[1]), new int[] {1, 0}, new int[] {60, 2}, new int[] {BIG, 0});
        refusedAll("force", NONE, (x, a) -> x.force(a[0], a[1], a[2]), new int[] {0, 599, 599}, new int[] {0, 600, 600},
            new int[] {1, 0, 599});
        refused("sinks", NONE, (x, a) -> x.sinks(1, 0, 1));
        refused("cant", NONE, (x, a) -> x.cant(0, 1));
        refused("keeps", NO_LEVEL, (x, a) -> x.keeps(2, 2, 0, 1));
        refused("order", NONE, (x, a) -> x.order(0, 1, NONE));
        refused("order", NONE, (x, a) -> x.order(0, 1, 0));
        refused("cell", NONE, (x, a) -> x.cell(0, 100, 4, 4, 9, 8));
        taken("level", CHANGES, NONE, (x, a) -> x.level(0, 599, true, 5));
        taken("levelOf", ASKS, NO_LEVEL, (x, a) -> x.levelOf(0, 599, 600));
        taken("area", ASKS, NONE, (x, a) -> x.area());
        taken("is", ASKS, NONE, (x, a) -> x.is(0, 0, 599));
        taken("council", ASKS, NONE, (x, a) -> x.council(3));
        taken("death", CHANGES, NONE, (x, a) -> x.death(0));
        taken("back", ASKS, 0, (x, a) -> x.back());
        taken("image", ASKS, 0, (x, a) -> x.image());
    }

    private static void both(int clock) {
        seas();
        islands();
        folk();
        titles();
        tapes();
        law(clock);
        answers();
        tried();
        graves();
    }

    private static void seas() {
        bounds("level", CHANGES, NONE, (x, a) -> x.level(a[0], a[1], true, a[2]), rises(), months(), upTo(-1000, 40, 5000));
        bounds("level, no number", CHANGES, NONE, (x, a) -> x.level(a[0], a[1], false, a[2]), rises(), months(), upTo(SMALL, 0, BIG));
        bounds("levelOf", ASKS, NO_LEVEL, (x, a) -> x.levelOf(a[0], a[1], a[2]), rises(), months(), upTo(0, 3, 600));
        bounds("table", CHANGES, 0, (x, a) -> is(x.table(a[0], a[1], a[2], a[3], a[4], a[5])), upTo(0, 4, 11),
            upTo(0, 100, 700), upTo(100, 700, 2000), upTo(0, 25, 40), upTo(0, 5, 50), upTo(0, 20, 100));
        bounds("rules", CHANGES, 0, (x, a) -> is(x.rules(a[0], a[1], a[2], a[3], a[4])), upTo(0, 20, 40), upTo(0, 3, 5),
            upTo(0, 8, 50), upTo(1, 5, 20), upTo(0, 50, 100));
    }

    private static void islands() {
        bounds("wall", CHANGES, 0, (x, a) -> is(x.wall(a[0], a[1])), cells(), upTo(0, 9, 1000));
        bounds("well", CHANGES, 0, (x, a) -> is(x.well(a[0], a[1], a[2], a[3])), upTo(1, 1, 2), upTo(1, 5, 20),
            upTo(0, 70, 10000), upTo(0, 7, 100));
        bounds("beds", CHANGES, NONE, (x, a) -> x.beds(0, a[0]), upTo(-3, 1, 17));
        bounds("beds", CHANGES, NONE, (x, a) -> x.beds(a[0], 2), cells());
        bounds("lot", CHANGES, NONE, (x, a) -> x.lot(a[0]), upTo(0, 9, 60));
        bounds("person", CHANGES, NONE, (x, a) -> x.person(a[0], a[1], a[2], a[3], a[4]), upTo(0, 4, 9), upTo(0, 50, 99),
            upTo(0, 4, 7), upTo(0, 1, Country.RINGS - 1), upTo(0, 50, 100));
    }

    private static void folk() {
        Call go = (x, a) -> is(x.go(a[0], a[1]));
        bounds("go", CHANGES, 0, (x, a) -> is(x.go(a[0], 101)), persons());
        for (int to : new int[] {1, 101, 200}) {
            taken("go", CHANGES, 0, go, 0, to);
        }
        for (int to : new int[] {-1, Country.RINGS, 3, 4, 5, 99, 100 + Country.LOTS, 103, 104, 105, 199, 201, 299, 300, 301, SMALL, BIG,
            65536, 65637, 456, -100}) {
            refused("go", 0, go, 1, to);
        }
        refusedAll("go: it is there", 0, go, new int[] {0, 0}, new int[] {2, 1}, new int[] {4, 100}, new int[] {5, 200});
        bounds("choose", CHANGES, 0, (x, a) -> is(x.choose(a[0], a[1])), persons(), upTo(NONE, 0, 1));
        bounds("sail", CHANGES, 0, (x, a) -> is(x.sail(a[0], a[1])), upTo(0, 3, 40), upTo(0, 77, 100000));
        bounds("months", CHANGES, NONE, (x, a) -> x.months(a[0], a[1]), upTo(1, 2, 60), rises());
        bounds("council", ASKS, NONE, (x, a) -> x.council(a[0]), upTo(0, 5, (1 << Country.PERSONS) - 1));
        LongCall council = RingsUnder::council;
        for (int bit = Country.PERSONS; bit < 64; bit++) {
            RingsUnder x = country.get();
            due("council, bit " + bit, council.on(x, 1L << bit | 1), NONE);
            due("council of bit " + bit + " alone", council.on(x, 1L << bit), NONE);
            due("behind council, bit " + bit, Country.all(x), before);
        }
    }

    private static void titles() {
        bounds("death", CHANGES, NONE, (x, a) -> x.death(a[0]), persons());
        bounds("title", CHANGES, 0, (x, a) -> is(x.title(a[0], a[1])), cells(), upTo(NONE, 3, Country.PERSONS - 1));
        bounds("titleOf", ASKS, NONE, (x, a) -> x.titleOf(0, a[0]), upTo(0, 1, 1));
        bounds("titleOf", ASKS, NONE, (x, a) -> x.titleOf(a[0], 1), cells());
    }

    private static void tapes() {
        bounds("end", CHANGES, NONE, (x, a) -> x.end(a[0]), upTo(0, 2, 3));
        bounds("fault", ASKS, NONE, (x, a) -> x.fault(a[0]), upTo(0, 0, 1));
    }

    private static void law(int clock) {
        bounds("force", CHANGES, NONE, (x, a) -> x.force(a[0], a[1], a[2]), upTo(0, 1, 1), upTo(clock, 10, 20), upTo(10, 20, 599));
        refusedAll("force", NONE, (x, a) -> x.force(a[0], a[1], a[2]), new int[] {0, 600, 600}, new int[] {0, clock - 1, 599},
            new int[] {0, 599, 598}, new int[] {0, SMALL, BIG}, new int[] {2, clock, clock});
        bounds("is", ASKS, NONE, (x, a) -> x.is(a[0], a[1], a[2]), upTo(0, 1, 2), persons(), months());
        bounds("why", ASKS, NONE, (x, a) -> x.why(a[0], a[1], a[2]), upTo(0, 0, 2), upTo(0, 0, 0), months());
        refusedAll("why", NONE, (x, a) -> x.why(0, a[0], 7), new int[] {Country.PERSONS}, new int[] {NONE}, new int[] {BIG});
        bounds("says", ASKS, NONE, (x, a) -> x.says(a[0], a[1]), months(), upTo(0, 1, 2));
    }

    private static void answers() {
        bounds("cellOf", ASKS, NO_LEVEL, (x, a) -> x.cellOf(a[0], a[1]), cells(), upTo(0, 5, 11));
        bounds("about", ASKS, NO_ANSWER, (x, a) -> x.about(a[0]), upTo(0, 3, 16));
        Call at = (x, a) -> x.at(a[0]);
        for (int place : new int[] {0, 1, 100, 101, 200, 300}) {
            taken("at", ASKS, NONE, at, place);
        }
        for (int place : new int[] {-1, 2, 4, 5, 99, 102, 104, 105, 199, 201, 299, 301, 400, SMALL, BIG, 65536, 65736, 256, 356}) {
            refused("at", NONE, at, place);
        }
    }

    private static void tried() {
        bounds("sinks", ASKS, NONE, (x, a) -> x.sinks(1, a[0], a[1]), rises(), upTo(1, 3, 60));
        refusedAll("sinks", NONE, (x, a) -> x.sinks(a[0], 0, 60), new int[] {Country.CELLS}, new int[] {NONE}, new int[] {BIG});
        bounds("cant", ASKS, NONE, (x, a) -> x.cant(a[0], a[1]), rises(), upTo(1, 3, 60));
        bounds("keeps", ASKS, NO_LEVEL, (x, a) -> x.keeps(a[0], a[1], a[2], a[3]), upTo(2, 2, 3), cells(), rises(), upTo(1, 3, 60));
        bounds("order", ASKS, NONE, (x, a) -> x.order(a[0], a[1], a[2]), rises(), upTo(1, 3, 12), upTo(NONE, 0, Country.RINGS - 1));
        bounds("order, how many", ASKS, NONE, (x, a) -> x.order(a[0], a[1], NONE), rises(), upTo(1, 3, 12));
    }

    private static void graves() {
        bounds("grave", CHANGES, NONE, (x, a) -> x.grave(a[0]), cells());
        bounds("bury", CHANGES, 0, (x, a) -> is(x.bury(a[0], a[1])), upTo(0, 1, 1), upTo(0, 0, 0));
        bounds("bury", CHANGES, 0, (x, a) -> is(x.bury(a[0], 3)), upTo(0, 1, 1));
        refusedAll("bury: it is there", 0, (x, a) -> is(x.bury(a[0], a[1])), new int[] {0, 2}, new int[] {1, 1});
        refusedAll("bury", 0, (x, a) -> is(x.bury(0, a[0])), new int[] {Country.CELLS}, new int[] {NONE}, new int[] {SMALL});
        bounds("found", ASKS, NONE, (x, a) -> x.found(a[0], a[1]), upTo(0, 1, 2), upTo(0, 0, 0));
        refusedAll("found", NONE, (x, a) -> x.found(a[0], 0), new int[] {Country.CELLS}, new int[] {3}, new int[] {NONE}, new int[] {64});
    }
}
