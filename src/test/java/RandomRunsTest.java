import java.util.ArrayList;
import java.util.List;
import java.util.Random;

/**
 * Random runs of up to 512 calls on a RingsUnder and on the Model beside it: every answer is
 * to be the same, and no call may throw. The seeds are fixed. Arguments: how many runs, from which seed on.
 */
final class RandomRunsTest {
    private static final int CALLS = 512;

    private final Random random;
    private final RingsUnder x = new RingsUnder();
    private final Model y = new Model();
    private final List<String> told = new ArrayList<>();
    private final int wildness;
    private final int pace;
    private boolean wrong;

    private RandomRunsTest(long seed) {
        random = new Random(seed);
        wildness = random.nextInt(4) == 0 ? 8 : 60;
        pace = random.nextInt(4) == 0 ? 60 : 5;
    }

    public static void main(String[] args) {
        int runs = args.length > 0 ? Integer.parseInt(args[0]) : 400;
        long first = args.length > 1 ? Long.parseLong(args[1]) : 1;
        int failed = 0;
        for (long seed = first; seed < first + runs && failed < 3; seed++) {
            if (!new RandomRunsTest(seed).run(seed)) {
                failed++;
            }
        }
        System.out.println(failed == 0 ? runs + " random runs are as due" : "random runs are not as due");
        if (failed > 0) {
            System.exit(1);
        }
    }

    private boolean run(long seed) {
        if (random.nextInt(8) > 0) {
            settle();
        }
        while (told.size() < CALLS && !wrong) {
            int kind = random.nextInt(20);
            if (kind < 1) {
                tellText();
            } else if (kind < 2) {
                lookAtAll();
            } else {
                call(random.nextInt(42));
            }
        }
        if (wrong) {
            System.out.println("seed " + seed + ":");
            told.subList(Math.max(0, told.size() - 12), told.size()).forEach(System.out::println);
        }
        return !wrong;
    }

    private void due(String call, long got, long want) {
        told.add(call + " = " + got + (got == want ? "" : ", due is " + want));
        wrong |= got != want;
    }

    private void due(String call, boolean got, boolean want) {
        due(call, got ? 1 : 0, want ? 1 : 0);
    }

    /** Mostly a number from low to high, now and then one beside or far off. */
    private int any(int low, int high) {
        if (high < low) {
            return low;
        }
        int way = random.nextInt(wildness * 4);
        switch (way) {
            case 0:
                return low - 1;
            case 1:
                return high + 1;
            case 2:
                return random.nextInt();
            case 3:
                return random.nextBoolean() ? Integer.MIN_VALUE : Integer.MAX_VALUE;
            case 4:
            case 5:
                return low;
            case 6:
            case 7:
                return high;
            default:
                return (int) (low + Math.floorMod(random.nextLong(), (long) high - low + 1));
        }
    }

    private int one(int count) {
        return any(0, Math.max(0, count - 1));
    }

    /** A country to begin with, so that the calls behind it have something to meet. */
    private void settle() {
        boolean full = random.nextInt(12) == 0;
        int rings = full ? 5 : 1 + random.nextInt(5);
        for (int i = 0; i < rings; i++) {
            due("ring", x.ring(), y.ring());
        }
        int cells = full ? 44 : 1 + random.nextInt(14);
        for (int i = 0; i < cells; i++) {
            call(2);
        }
        for (int i = full ? 20 : random.nextInt(6); i > 0; i--) {
            call(6);
            call(7);
            call(8);
            call(9);
            call(10);
            call(3);
        }
        for (int i = full ? 44 : random.nextInt(25); i > 0; i--) {
            call(11);
        }
        for (int i = random.nextInt(5); i > 0; i--) {
            tellText();
        }
        for (int i = full ? 34 : random.nextInt(9); i > 0; i--) {
            call(15);
            call(23);
            if (full) {
                call(38);
            }
        }
        call(24);
        if (random.nextInt(8) == 0) {
            for (int i = 7 + random.nextInt(4); i > 0; i--) {
                due("months(60,1", x.months(60, 1), y.months(60, 1));
            }
        }
        due("image", x.image(), y.image());
    }

    private void tellText() {
        StringBuilder text = new StringBuilder();
        new Phrases(random).text(text);
        String s = text.length() > 300 ? text.substring(0, 300) : text.toString();
        due("end(0)", x.end(0), y.end(0));
        for (int i = 0; i < s.length(); i += 20) {
            int[] f = new int[5];
            for (int j = 0; j < 20; j++) {
                int b = i + j < s.length() ? s.charAt(i + j) : 0;
                f[j / 4] = f[j / 4] << 8 | b;
            }
            due("feed", x.feed(f[0], f[1], f[2], f[3], f[4]), y.feed(f[0], f[1], f[2], f[3], f[4]));
        }
        due("end", x.end(s.length()), y.end(s.length()));
        int texts = y.s.texts.size();
        due("text of <" + s + ">", x.text(), y.text());
        due("fault(0)", x.fault(0), y.fault(0));
        due("fault(1)", x.fault(1), y.fault(1));
        if (y.s.texts.size() > texts && random.nextInt(4) > 0) {
            int from = Math.min(599, y.s.clock + random.nextInt(3));
            int to = Math.min(599, from + random.nextInt(random.nextBoolean() ? 5 : 300));
            due("force(" + texts + "," + from + "," + to, x.force(texts, from, to), y.force(texts, from, to));
        }
    }

    /** A part of all that can be looked at. */
    private void lookAtAll() {
        for (int i = 0; i < 17; i++) {
            due("about(" + i, x.about(i), y.about(i));
        }
        due("area", x.area(), y.area());
        int c = random.nextInt(Math.max(1, y.s.cells.size()));
        for (int i = 0; i < 12; i++) {
            due("cellOf(" + c + "," + i, x.cellOf(c, i), y.cellOf(c, i));
        }
        int p = random.nextInt(Math.max(1, y.s.persons.size()));
        for (int i = 0; i < 8; i++) {
            due("personOf(" + p + "," + i, x.personOf(p, i), y.personOf(p, i));
        }
    }

    private void call(int which) {
        if (which < 12) {
            callTelling(which);
        } else if (which < 26) {
            callPeople(which);
        } else {
            callMonths(which);
        }
    }

    private void callTelling(int which) {
        int a, b, c, d, e, f;
        switch (which) {
            case 1:
                due("ring", x.ring(), y.ring());
                break;
            case 2:
                a = one(y.s.rings);
                b = random.nextBoolean() ? any(300, 700) : any(-500, 3000);
                c = any(0, 31);
                d = any(0, 31);
                e = any(0, random.nextBoolean() ? 20 : 500);
                f = any(0, 400);
                due("cell(" + a + "," + b + "," + c + "," + d + "," + e + "," + f, x.cell(a, b, c, d, e, f), y.cell(a, b, c, d, e, f));
                break;
            case 3:
                a = any(0, 2);
                b = random.nextInt(3) > 0 ? Math.min(599, y.s.clock + random.nextInt(8)) : any(0, 599);
                c = random.nextInt(3);
                d = random.nextBoolean() ? any(-200, 200) : any(-1000, 5000);
                due("level(" + a + "," + b + "," + (c > 0) + "," + d, x.level(a, b, c > 0, d), y.level(a, b, c > 0, d));
                break;
            case 4:
                a = any(0, 2);
                b = random.nextBoolean() ? Math.min(599, y.s.clock + random.nextInt(8)) : any(0, 599);
                c = random.nextBoolean() ? y.s.clock : any(0, 600);
                due("levelOf(" + a + "," + b + "," + c, x.levelOf(a, b, c), y.levelOf(a, b, c));
                break;
            case 5:
                a = any(0, 11);
                b = any(0, 900);
                c = random.nextInt(20) == 0 ? b - 1 : any(b, Math.max(b, random.nextBoolean() ? 900 : 2000));
                d = any(0, 40);
                e = any(0, 50);
                f = any(0, 100);
                due("table(" + a + "," + b + "," + c + "," + d + "," + e + "," + f, x.table(a, b, c, d, e, f), y.table(a, b, c, d, e, f));
                break;
            case 6:
                a = any(0, 40);
                b = any(0, 5);
                c = any(0, 50);
                d = any(1, 20);
                e = any(0, 100);
                due("rules(" + a + "," + b + "," + c + "," + d + "," + e, x.rules(a, b, c, d, e), y.rules(a, b, c, d, e));
                break;
            case 7:
                a = one(y.s.cells.size());
                b = random.nextInt(3) == 0 ? 0 : any(0, random.nextBoolean() ? 100 : 1000);
                due("wall(" + a + "," + b, x.wall(a, b), y.wall(a, b));
                break;
            case 8:
                a = one(y.s.cells.size());
                b = any(1, 20);
                c = any(0, random.nextBoolean() ? 100 : 10000);
                d = any(0, random.nextBoolean() ? 25 : 100);
                due("well(" + a + "," + b + "," + c + "," + d, x.well(a, b, c, d), y.well(a, b, c, d));
                break;
            case 9:
                a = one(y.s.cells.size());
                b = any(-2, 8);
                due("beds(" + a + "," + b, x.beds(a, b), y.beds(a, b));
                break;
            case 10:
                a = any(0, random.nextBoolean() ? 8 : 60);
                due("lot(" + a, x.lot(a), y.lot(a));
                break;
            default:
                a = any(0, random.nextBoolean() ? 3 : 9);
                b = any(0, 99);
                c = any(0, 7);
                d = one(y.s.rings);
                e = any(0, 100);
                due("person(" + a + "," + b + "," + c + "," + d + "," + e, x.person(a, b, c, d, e), y.person(a, b, c, d, e));
        }
    }

    private void callPeople(int which) {
        int a, b, c;
        switch (which) {
            case 12:
            case 13:
                a = one(y.s.persons.size());
                b = anyPlace();
                due("go(" + a + "," + b, x.go(a, b), y.go(a, b));
                break;
            case 14:
                if (random.nextInt(3) == 0) {
                    a = one(y.s.persons.size());
                    due("death(" + a, x.death(a), y.death(a));
                }
                break;
            case 15:
                a = one(y.s.cells.size());
                b = any(-1, y.s.persons.size() - 1);
                due("title(" + a + "," + b, x.title(a, b), y.title(a, b));
                break;
            case 16:
            case 17:
                a = one(y.s.cells.size());
                b = any(0, 1);
                due("titleOf(" + a + "," + b, x.titleOf(a, b), y.titleOf(a, b));
                break;
            case 18:
                a = random.nextInt();
                due("feed", x.feed(a, a, a, a, a), y.feed(a, a, a, a, a));
                a = any(0, y.tape.size());
                due("end(" + a, x.end(a), y.end(a));
                break;
            case 19:
                a = one(y.s.texts.size());
                b = any(y.s.clock, Math.min(599, y.s.clock + 9));
                c = any(b, 599);
                due("force(" + a + "," + b + "," + c, x.force(a, b, c), y.force(a, b, c));
                break;
            case 20:
            case 21:
                a = any(0, 2);
                b = one(y.s.persons.size());
                c = random.nextBoolean() ? y.s.clock : any(0, 599);
                due("is(" + a + "," + b + "," + c, x.is(a, b, c), y.is(a, b, c));
                due("why(" + a + "," + b + "," + c, x.why(a, b, c), y.why(a, b, c));
                break;
            case 22:
                a = random.nextBoolean() ? y.s.clock : any(0, 599);
                b = any(0, 2);
                due("says(" + a + "," + b, x.says(a, b), y.says(a, b));
                break;
            case 23:
                a = one(y.s.persons.size());
                b = any(-1, 1);
                due("choose(" + a + "," + b, x.choose(a, b), y.choose(a, b));
                break;
            case 24:
                a = any(0, random.nextBoolean() ? 5 : 40);
                b = random.nextInt(4) > 0 ? 0 : any(0, 100000);
                due("sail(" + a + "," + b, x.sail(a, b), y.sail(a, b));
                break;
            default:
                a = any(0, 3);
                due("fault(" + a, x.fault(a), y.fault(a));
        }
    }

    private int anyPlace() {
        switch (random.nextInt(4)) {
            case 0:
                return any(0, 4);
            case 1:
                return any(100, 104);
            case 2:
                return 200;
            default:
                return random.nextInt(4) > 0 ? one(y.s.rings) : 300;
        }
    }

    private void callMonths(int which) {
        int rise = any(0, 2);
        int n = any(1, random.nextInt(3) > 0 ? pace : 60);
        int a, b;
        switch (which) {
            case 26:
            case 27:
                due("months(" + n + "," + rise, x.months(n, rise), y.months(n, rise));
                break;
            case 28:
            case 29:
                lookAtAll();
                break;
            case 30:
                a = anyPlace();
                due("at(" + a, x.at(a), y.at(a));
                break;
            case 31:
                long there = random.nextLong() & (1L << Math.min(63, y.s.persons.size())) - 1;
                there |= random.nextInt(wildness) == 0 ? 1L << random.nextInt(64) : 0;
                due("council(" + there, x.council(there), y.council(there));
                break;
            case 32:
            case 33:
                a = one(y.s.cells.size());
                due("sinks(" + a + "," + rise + "," + n, x.sinks(a, rise, n), y.sinks(a, rise, n));
                break;
            case 34:
                due("cant(" + rise + "," + n, x.cant(rise, n), y.cant(rise, n));
                break;
            case 35:
                a = one(y.s.cells.size());
                b = one(y.s.cells.size());
                due("keeps(" + a + "," + b + "," + rise + "," + n, x.keeps(a, b, rise, n), y.keeps(a, b, rise, n));
                break;
            case 36:
            case 37:
                n = any(1, 12);
                a = any(-1, y.s.rings - 1);
                due("order(" + rise + "," + n + "," + a, x.order(rise, n, a), y.order(rise, n, a));
                break;
            case 38:
                a = one(y.s.cells.size());
                due("grave(" + a, x.grave(a), y.grave(a));
                break;
            case 39:
                a = one(y.s.graves.size());
                b = one(y.s.cells.size());
                due("bury(" + a + "," + b, x.bury(a, b), y.bury(a, b));
                break;
            case 40:
                a = one(y.s.cells.size());
                b = any(0, 3);
                due("found(" + a + "," + b, x.found(a, b), y.found(a, b));
                break;
            default:
                if (random.nextInt(pace) == 0) {
                    due("back", x.back(), y.back());
                } else {
                    due("image", x.image(), y.image());
                }
                a = any(0, 16);
                due("about(" + a, x.about(a), y.about(a));
        }
    }
}
