import java.util.ArrayList;
import java.util.Comparator;
import java.util.List;

/**
 * The document once more, written without a thought of speed or room and in another way than
 * the program: a MONTH that is TRIED is gone by on a copy, THE LAW is read by recursion.
 */
final class Model {
    static final int NONE = -1;

    static final class Cell {
        int ring, height, x, y, sand, reef, wall, beds, gathers, lens, salt, under, holder = NONE;
        boolean well, dry;
        List<Boolean> rock = new ArrayList<>();

        Cell copy() {
            Cell c = new Cell();
            c.ring = ring; c.height = height; c.x = x; c.y = y; c.sand = sand; c.reef = reef; c.wall = wall;
            c.beds = beds; c.gathers = gathers; c.lens = lens; c.salt = salt; c.under = under; c.holder = holder;
            c.well = well; c.dry = dry; c.rock = new ArrayList<>(rock);
            return c;
        }

        int top() { return height + sand + reef / 4 + wall; }
    }

    static final class Person {
        int number, kin, age, craft, place, send, thirst, noBed, went = NONE, vote = NONE;

        Person copy() {
            Person p = new Person();
            p.number = number; p.kin = kin; p.age = age; p.craft = craft; p.place = place; p.send = send;
            p.thirst = thirst; p.noBed = noBed; p.went = went; p.vote = vote;
            return p;
        }
    }

    static final class Grave {
        int cell;
        List<Integer> lay = new ArrayList<>();

        Grave copy() {
            Grave g = new Grave();
            g.cell = cell; g.lay = new ArrayList<>(lay);
            return g;
        }
    }

    static final class State {
        int clock, rings, fund, deep, boats, cant = NONE, area = NONE;
        int bear = 29, grow = 1, die = 10, reach = 3, cost = 5;
        int[][] table = new int[12][];
        List<Cell> cells = new ArrayList<>();
        List<Person> persons = new ArrayList<>();
        List<int[]> levels = new ArrayList<>();
        List<Integer> lots = new ArrayList<>();
        List<Law> texts = new ArrayList<>();
        List<int[]> forces = new ArrayList<>();
        List<Grave> graves = new ArrayList<>();

        State() {
            for (int i = 0; i < 12; i++) table[i] = new int[] {0, 500, 25, 5, 20};
        }

        State copy() {
            State s = new State();
            s.clock = clock; s.rings = rings; s.fund = fund; s.deep = deep; s.boats = boats; s.cant = cant; s.area = area;
            s.bear = bear; s.grow = grow; s.die = die; s.reach = reach; s.cost = cost;
            for (int i = 0; i < 12; i++) s.table[i] = table[i].clone();
            for (Cell c : cells) s.cells.add(c.copy());
            for (Person p : persons) s.persons.add(p.copy());
            s.levels.addAll(levels);
            s.lots.addAll(lots);
            s.texts.addAll(texts);
            s.forces.addAll(forces);
            for (Grave g : graves) s.graves.add(g.copy());
            return s;
        }

        int[] latest(int rise, int month, int known) {
            int[] found = null;
            for (int[] l : levels) if (l[0] == rise && l[1] == month && l[4] <= known) found = l;
            return found;
        }

        int levelOf(int rise, int month, int known) {
            int[] own = latest(rise, month, known);
            if (own != null && own[2] == 1) return own[3];
            if (own != null) {
                int sum = 0, many = 0;
                for (int m = month - 1; m <= month + 1; m += 2) {
                    int[] l = latest(rise, m, known);
                    if (l != null && l[2] == 1) { sum += l[3]; many++; }
                }
                if (many > 0) return sum / many;
            }
            Integer worst = null;
            for (int[] l : levels) {
                if (l[0] == rise && l[2] == 1 && l[4] <= known && (worst == null || l[3] > worst)) worst = l[3];
            }
            return worst == null ? 0 : worst;
        }

        Law theText(String sort, int month) {
            Law law = null;
            for (int[] f : forces) {
                if (f[1] <= month && month <= f[2] && texts.get(f[0]).has(sort)) law = texts.get(f[0]);
            }
            return law;
        }

        int[] names(Person p, int month, int under) {
            return new int[] {p.age, p.kin, p.craft, p.place, month, under};
        }

        boolean so(String sort, Person p, int month, int under) {
            Law law = theText(sort, month);
            if (law == null) return !sort.equals("lasts");
            return law.why(sort, names(p, month, under)) != NONE;
        }

        int number(String sort, int month, int without) {
            Law law = theText(sort, month);
            return law == null ? without : law.number(sort);
        }

        List<Person> inOrder(String sort, int month) {
            List<Person> all = new ArrayList<>(persons);
            Law law = theText(sort, month);
            if (law == null) return all;
            Comparator<Person> by = Comparator.comparingInt(p -> 0);
            for (String key : law.keys(sort)) {
                boolean least = !key.startsWith("-");
                int name = Law.NAMES.indexOf(least ? key : key.substring(1));
                Comparator<Person> one = Comparator.comparingInt(p -> names(p, month, 0)[name]);
                by = by.thenComparing(least ? one : one.reversed());
            }
            all.sort(by.thenComparingInt(p -> p.number));
            return all;
        }

        int countAt(int place) {
            int n = 0;
            for (Person p : persons) if (p.place == place) n++;
            return n;
        }

        /** One MONTH; with rings given PERSONS go by them instead of order. */
        void month(int rise, int[] ringOrder) {
            int m = clock;
            int[] t = table[m % 12];
            int level = levelOf(rise, m, m);
            for (Cell c : cells) {
                if (t[2] <= bear) c.reef = Math.min(400, c.reef + grow);
                else c.reef = Math.max(0, c.reef - die);
            }
            int[] comes = new int[cells.size()];
            for (int i = 0; i < cells.size(); i++) {
                Cell c = cells.get(i);
                if (c.wall > 0) continue;
                int goes = Math.min(c.sand, t[3]);
                comes[i] -= goes;
                int to = NONE;
                for (int j = cells.size() - 1; j > i; j--) if (cells.get(j).ring == c.ring) to = j;
                if (to == NONE) deep += goes;
                else comes[to] += goes;
            }
            for (int i = 0; i < cells.size(); i++) cells.get(i).sand += comes[i];
            for (Cell c : cells) {
                c.dry = c.top() > level + t[1];
                c.rock.add(c.top() > level + t[0]);
                c.under = c.dry ? 0 : c.under + 1;
            }
            for (Cell c : cells) {
                if (c.well && c.dry) {
                    c.lens = Math.min(10000, c.lens + t[4] * c.gathers);
                    c.salt = Math.max(0, c.salt - 1);
                } else if (c.well) {
                    c.salt = Math.min(100, c.salt + 10);
                }
            }
            for (Cell c : cells) if (!c.dry) c.beds = 0;
            for (Person p : persons) {
                if (p.place >= 5) continue;
                Cell from = null;
                for (Cell c : cells) {
                    if (from == null && c.well && c.ring == p.place && c.salt <= 20 && c.lens >= 10) from = c;
                }
                if (from == null) p.thirst++;
                else from.lens -= 10;
            }
            for (int r = 0; r < rings; r++) {
                int beds = 0;
                for (Cell c : cells) if (c.ring == r) beds += c.beds;
                for (Person p : persons) if (p.place == r && --beds < 0) p.noBed++;
            }
            for (Person p : persons) if (p.place == 200) fund += p.send;
            countArea(m);
            fund += number("leave", m, 10) * area / 100;
            for (Cell c : cells) if (c.wall > 0) fund -= cost;
            if (fund < 0 && cant == NONE) cant = m;
            sail(m, ringOrder);
            clock++;
        }

        void countArea(int m) {
            int fix = number("fix", m, NONE);
            int seen = fix != NONE && fix < m ? fix : m;
            area = 0;
            for (int x = 0; x < 32; x++) {
                for (int y = 0; y < 32; y++) {
                    boolean near = false;
                    for (Cell c : cells) {
                        int dx = c.x - x, dy = c.y - y;
                        if (c.rock.get(seen) && dx * dx + dy * dy <= reach * reach) near = true;
                    }
                    if (near) area++;
                }
            }
        }

        void sail(int m, int[] ringOrder) {
            List<Person> queue = new ArrayList<>();
            if (ringOrder == null) {
                queue = inOrder("order", m);
            } else {
                for (int r : ringOrder) for (Person p : persons) if (p.place == r) queue.add(p);
            }
            List<Person> looked = new ArrayList<>();
            int left = boats;
            for (Person p : queue) {
                if (p.place >= 5 || looked.contains(p) || !so("may", p, m, 0)) continue;
                List<Person> group = new ArrayList<>();
                for (Person q : persons) {
                    if (q.place == p.place && q.kin == p.kin && so("may", q, m, 0)) group.add(q);
                }
                looked.addAll(group);
                if (group.size() > left) continue;
                for (int lot = 0; lot < lots.size(); lot++) {
                    if (lots.get(lot) - countAt(100 + lot) >= group.size()) {
                        left -= group.size();
                        for (Person q : group) { q.place = 100 + lot; q.went = m; }
                        break;
                    }
                }
            }
        }
    }

    State s = new State();
    State image = new State();
    List<Integer> tape = new ArrayList<>();
    int fault = NONE, faultPlace = NONE;

    static boolean in(int v, int a, int b) { return a <= v && v <= b; }
    boolean isCell(int c) { return in(c, 0, s.cells.size() - 1); }
    boolean isPerson(int p) { return in(p, 0, s.persons.size() - 1); }
    boolean isRing(int r) { return in(r, 0, s.rings - 1); }
    boolean tries(int rise, int n, int most) { return in(rise, 0, 2) && in(n, 1, most) && s.clock + n <= 600; }
    static int bit(boolean b) { return b ? 1 : 0; }

    int ring() { return s.rings == 5 ? NONE : s.rings++; }

    int cell(int ring, int height, int x, int y, int sand, int reef) {
        if (!isRing(ring) || !in(height, -500, 3000) || !in(x, 0, 31) || !in(y, 0, 31) || !in(sand, 0, 500)
            || !in(reef, 0, 400) || s.clock > 0 || s.cells.size() == 40) return NONE;
        Cell c = new Cell();
        c.ring = ring; c.height = height; c.x = x; c.y = y; c.sand = sand; c.reef = reef;
        s.cells.add(c);
        return s.cells.size() - 1;
    }

    int level(int rise, int month, boolean number, int v) {
        if (!in(rise, 0, 2) || !in(month, 0, 599) || number && !in(v, -1000, 5000) || s.levels.size() == 200) return NONE;
        s.levels.add(new int[] {rise, month, bit(number), v, s.clock});
        return s.levels.size();
    }

    int levelOf(int rise, int month, int known) {
        return in(rise, 0, 2) && in(month, 0, 599) && in(known, 0, 600) ? s.levelOf(rise, month, known) : -1000000;
    }

    boolean table(int place, int low, int high, int warm, int drift, int rain) {
        if (!in(place, 0, 11) || !in(low, 0, 2000) || !in(high, 0, 2000) || low > high || !in(warm, 0, 40)
            || !in(drift, 0, 50) || !in(rain, 0, 100)) return false;
        s.table[place] = new int[] {low, high, warm, drift, rain};
        return true;
    }

    boolean rules(int bear, int grow, int die, int reach, int cost) {
        if (!in(bear, 0, 40) || !in(grow, 0, 5) || !in(die, 0, 50) || !in(reach, 1, 20) || !in(cost, 0, 100)) return false;
        s.bear = bear; s.grow = grow; s.die = die; s.reach = reach; s.cost = cost;
        return true;
    }

    boolean wall(int cell, int v) {
        if (!isCell(cell) || !in(v, 0, 1000)) return false;
        s.cells.get(cell).wall = v;
        return true;
    }

    boolean well(int cell, int gathers, int lens, int salt) {
        if (!isCell(cell) || !in(gathers, 1, 20) || !in(lens, 0, 10000) || !in(salt, 0, 100)) return false;
        Cell c = s.cells.get(cell);
        if (c.well) return false;
        c.well = true; c.gathers = gathers; c.lens = lens; c.salt = salt;
        return true;
    }

    int beds(int cell, int more) {
        if (!isCell(cell)) return NONE;
        Cell c = s.cells.get(cell);
        long all = (long) c.beds + more;
        if (all < 0 || all > 20) return NONE;
        return c.beds = (int) all;
    }

    int lot(int beds) {
        if (!in(beds, 0, 60) || s.lots.size() == 5) return NONE;
        s.lots.add(beds);
        return s.lots.size() - 1;
    }

    int person(int kin, int age, int craft, int ring, int send) {
        if (!in(kin, 0, 9) || !in(age, 0, 99) || !in(craft, 0, 7) || !isRing(ring) || !in(send, 0, 100)
            || s.persons.size() == 40) return NONE;
        Person p = new Person();
        p.number = s.persons.size(); p.kin = kin; p.age = age; p.craft = craft; p.place = ring; p.send = send;
        s.persons.add(p);
        return p.number;
    }

    boolean go(int person, int to) {
        if (!isPerson(person)) return false;
        Person p = s.persons.get(person);
        if (p.place == 300 || p.place == to) return false;
        boolean lot = in(to, 100, 99 + s.lots.size()) && s.lots.get(to - 100) > s.countAt(to);
        if (!isRing(to) && to != 200 && !lot) return false;
        p.place = to;
        return true;
    }

    int death(int person) {
        if (!isPerson(person) || s.persons.get(person).place == 300) return NONE;
        Person p = s.persons.get(person);
        p.place = 300;
        int heir = NONE;
        for (Person q : s.inOrder("heir", s.clock)) {
            if (heir == NONE && q.kin == p.kin && q.place != 300) heir = q.number;
        }
        int held = 0;
        for (Cell c : s.cells) if (c.holder == person) { c.holder = heir; held++; }
        return held;
    }

    boolean title(int cell, int person) {
        if (!isCell(cell) || person != NONE && (!isPerson(person) || s.persons.get(person).place == 300)) return false;
        s.cells.get(cell).holder = person;
        return true;
    }

    int titleOf(int cell, int what) {
        if (!isCell(cell) || !in(what, 0, 1)) return NONE;
        Cell c = s.cells.get(cell);
        if (what == 0) return c.holder;
        if (c.holder == NONE) return 0;
        return bit(s.clock == 0 || c.dry || s.so("lasts", s.persons.get(c.holder), s.clock, c.under));
    }

    int feed(int a, int b, int c, int d, int e) {
        if (tape.size() + 20 > 300) return NONE;
        for (int four : new int[] {a, b, c, d, e}) {
            for (int i = 3; i >= 0; i--) tape.add(four >> 8 * i & 255);
        }
        return tape.size();
    }

    int end(int n) {
        if (n < 0 || n > tape.size()) return NONE;
        tape = new ArrayList<>(tape.subList(0, n));
        return n;
    }

    int text() {
        if (s.texts.size() == 10) return NONE;
        Law law = new Law(tape);
        tape = new ArrayList<>();
        fault = law.fault;
        faultPlace = law.place;
        if (fault != 0) return NONE;
        s.texts.add(law);
        return s.texts.size() - 1;
    }

    int fault(int what) { return what == 0 ? fault : what == 1 ? faultPlace : NONE; }

    int force(int text, int from, int to) {
        if (!in(text, 0, s.texts.size() - 1) || !in(from, s.clock, 599) || !in(to, from, 599) || s.forces.size() == 30) return NONE;
        s.forces.add(new int[] {text, from, to});
        return s.forces.size() - 1;
    }

    static final String[] ASKED = {"people", "may", "vote"};

    int is(int what, int person, int month) {
        if (!in(what, 0, 2) || !isPerson(person) || !in(month, 0, 599)) return NONE;
        return bit(s.so(ASKED[what], s.persons.get(person), month, 0));
    }

    int why(int what, int person, int month) {
        if (!in(what, 0, 2) || !isPerson(person) || !in(month, 0, 599)) return NONE;
        Law law = s.theText(ASKED[what], month);
        return law == null ? NONE : law.why(ASKED[what], s.names(s.persons.get(person), month, 0));
    }

    int says(int month, int what) {
        if (!in(month, 0, 599)) return NONE;
        if (what == 0) return s.number("council", month, 50);
        if (what == 1) return s.number("leave", month, 10);
        return what == 2 ? s.number("fix", month, NONE) : NONE;
    }

    boolean sail(int boats, int coins) {
        if (!in(boats, 0, 40) || !in(coins, 0, 100000)) return false;
        s.boats = boats; s.fund += coins;
        return true;
    }

    int months(int n, int rise) {
        if (!tries(rise, n, 60)) return NONE;
        for (int i = 0; i < n; i++) s.month(rise, null);
        return s.clock;
    }

    int cellOf(int cell, int what) {
        if (!isCell(cell) || !in(what, 0, 11)) return -1000000;
        Cell c = s.cells.get(cell);
        int dry = s.clock == 0 ? NONE : bit(c.dry);
        int rock = s.clock == 0 ? NONE : bit(c.rock.get(s.clock - 1));
        return new int[] {c.ring, c.height, c.sand, c.reef, c.wall, c.top(), c.beds, c.well ? c.lens : NONE,
            c.well ? c.salt : NONE, c.under, dry, rock}[what];
    }

    int personOf(int person, int what) {
        if (!isPerson(person) || !in(what, 0, 7)) return NONE;
        Person p = s.persons.get(person);
        return new int[] {p.place, p.kin, p.age, p.craft, p.send, p.thirst, p.noBed, p.went}[what];
    }

    int at(int place) {
        boolean is = isRing(place) || in(place, 100, 99 + s.lots.size()) || place == 200 || place == 300;
        return is ? s.countAt(place) : NONE;
    }

    int area() { return s.area; }

    boolean choose(int person, int v) {
        if (!isPerson(person) || !in(v, -1, 1)) return false;
        s.persons.get(person).vote = v;
        return true;
    }

    int council(long there) {
        for (int i = s.persons.size(); i < 64; i++) if ((there & 1L << i) != 0) return NONE;
        int all = 0, present = 0, yes = 0, no = 0;
        for (Person p : s.persons) {
            if (p.place == 300 || !s.so("people", p, s.clock, 0) || !s.so("vote", p, s.clock, 0)) continue;
            all++;
            if ((there & 1L << p.number) == 0) continue;
            present++;
            if (p.vote == 1) yes++;
            if (p.vote == 0) no++;
        }
        if (100 * present < s.number("council", s.clock, 50) * all) return 2;
        return bit(yes > no);
    }

    int sinks(int cell, int rise, int n) {
        if (!isCell(cell) || !tries(rise, n, 60)) return NONE;
        State t = s.copy();
        for (int i = 0; i < n; i++) {
            t.month(rise, null);
            if (!t.cells.get(cell).dry) return t.clock - 1;
        }
        return NONE;
    }

    int cant(int rise, int n) {
        if (!tries(rise, n, 60)) return NONE;
        State t = s.copy();
        for (int i = 0; i < n; i++) {
            t.month(rise, null);
            if (t.fund < 0) return t.clock - 1;
        }
        return NONE;
    }

    int keeps(int wall, int cell, int rise, int n) {
        if (!isCell(wall) || !isCell(cell) || !tries(rise, n, 60) || s.cells.get(wall).wall == 0) return -1000000;
        State with = s.copy(), without = s.copy();
        without.cells.get(wall).wall = 0;
        for (int i = 0; i < n; i++) { with.month(rise, null); without.month(rise, null); }
        return with.cells.get(cell).sand - without.cells.get(cell).sand;
    }

    int order(int rise, int n, int what) {
        if (!tries(rise, n, 12) || !in(what, NONE, s.rings - 1)) return NONE;
        List<int[]> orders = new ArrayList<>();
        permute(new ArrayList<>(), orders);
        int least = Integer.MAX_VALUE;
        int[] best = null;
        for (int[] rings : orders) {
            State t = s.copy();
            for (int i = 0; i < n; i++) t.month(rise, rings);
            int lacks = 0;
            for (Person p : t.persons) lacks += p.thirst + p.noBed;
            for (Person p : s.persons) lacks -= p.thirst + p.noBed;
            if (lacks < least) { least = lacks; best = rings; }
        }
        return what == NONE ? least : best[what];
    }

    private void permute(List<Integer> begun, List<int[]> all) {
        if (begun.size() == s.rings) all.add(begun.stream().mapToInt(i -> i).toArray());
        for (int r = 0; r < s.rings; r++) {
            if (begun.contains(r)) continue;
            begun.add(r);
            permute(begun, all);
            begun.remove(begun.size() - 1);
        }
    }

    int grave(int cell) {
        if (!isCell(cell) || s.graves.size() == 30) return NONE;
        Grave g = new Grave();
        g.cell = cell;
        g.lay.add(cell);
        s.graves.add(g);
        return s.graves.size() - 1;
    }

    boolean bury(int grave, int cell) {
        if (!in(grave, 0, s.graves.size() - 1) || !isCell(cell) || s.graves.get(grave).cell == cell) return false;
        s.graves.get(grave).cell = cell;
        s.graves.get(grave).lay.add(cell);
        return true;
    }

    int found(int cell, int i) {
        List<Integer> at = new ArrayList<>();
        for (Grave g : s.graves) if (g.lay.contains(cell)) at.add(g.cell);
        return in(i, 0, at.size() - 1) ? at.get(i) : NONE;
    }

    int image() { image = s.copy(); return s.clock; }

    int back() { s = image.copy(); return s.clock; }

    int about(int what) {
        int sand = 0, thirst = 0, noBed = 0;
        for (Cell c : s.cells) sand += c.sand;
        for (Person p : s.persons) { thirst += p.thirst; noBed += p.noBed; }
        int[] all = {s.clock, s.rings, s.cells.size(), s.levels.size(), s.lots.size(), s.persons.size(), s.texts.size(),
            s.forces.size(), s.fund, s.deep, s.graves.size(), s.boats, s.cant, tape.size(), sand, thirst, noBed};
        return in(what, 0, 16) ? all[what] : -1000000000;
    }
}
