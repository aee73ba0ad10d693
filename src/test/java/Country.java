/** A country with something of everything, and what it answers when it is looked at from all sides. */
final class Country {
    static final int RINGS = 2;
    static final int CELLS = 4;
    static final int LOTS = 2;
    static final int PERSONS = 6;

    private Country() {
    }

    /** In MONTH 0, so that CELLS may come still. */
    static RingsUnder young() {
        RingsUnder x = new RingsUnder();
        tellLand(x);
        tellFolk(x);
        tellLaw(x);
        x.image();
        leaveTape(x);
        return x;
    }

    /** In MONTH 4, one MONTH behind its IMAGE. */
    static RingsUnder old() {
        RingsUnder x = new RingsUnder();
        tellLand(x);
        tellFolk(x);
        tellLaw(x);
        x.months(3, 0);
        x.image();
        x.months(1, 0);
        leaveTape(x);
        return x;
    }

    private static void tellLand(RingsUnder x) {
        x.ring();
        x.ring();
        x.cell(0, 1500, 10, 10, 60, 100);
        x.cell(1, 420, 12, 10, 30, 40);
        x.cell(0, 900, 20, 20, 10, 0);
        x.cell(1, 2000, 25, 5, 0, 400);
        x.wall(2, 30);
        x.wall(3, 10);
        x.well(0, 3, 400, 5);
        x.well(3, 1, 30, 20);
        x.beds(0, 3);
        x.beds(3, 1);
        x.level(0, 3, true, 250);
        x.level(0, 4, false, 0);
        x.level(0, 5, true, 401);
        x.level(1, 2, true, -7);
        x.table(5, 10, 600, 30, 6, 30);
        x.rules(28, 2, 9, 4, 100);
    }

    private static void tellFolk(RingsUnder x) {
        x.lot(2);
        x.lot(1);
        x.person(0, 30, 1, 0, 5);
        x.person(0, 5, 2, 0, 6);
        x.person(1, 60, 0, 1, 7);
        x.person(1, 17, 3, 1, 8);
        x.person(2, 44, 2, 0, 9);
        x.person(3, 20, 1, 1, 10);
        x.go(5, 200);
        x.go(4, 100);
        x.title(0, 0);
        x.title(1, 2);
        x.choose(0, 1);
        x.choose(2, 0);
        x.grave(0);
        x.grave(1);
        x.bury(0, 2);
    }

    private static void tellLaw(RingsUnder x) {
        Check.read(x, "people age>=18;may age<60;vote craft#2;order -age,kin;heir -age;");
        Check.read(x, "council 60;leave 30;fix 1;lasts under<3;");
        x.force(0, 0, 599);
        x.force(1, 0, 599);
        x.sail(1, 50);
    }

    /** A TEXT with a FAULT was read, and three bytes are on the tape. */
    private static void leaveTape(RingsUnder x) {
        Check.read(x, "may 10000=1;");
        Check.tape(x, "may");
    }

    /** What it answers now, then two MONTHS on, and then from its IMAGE on. The object is of no use afterwards. */
    static String all(RingsUnder x) {
        StringBuilder s = new StringBuilder();
        look(x, s);
        lookAtLaw(x, s);
        lookAtTheRest(x, s);
        s.append("\n  behind two months: ").append(x.months(2, 0));
        look(x, s);
        s.append("\n  the image: ").append(x.back());
        look(x, s);
        s.append("\n  its law: ").append(x.says(7, 0)).append(' ').append(x.levelOf(0, 4, 600));
        return s.toString();
    }

    private static void look(RingsUnder x, StringBuilder s) {
        s.append("\n  about:");
        for (int what = 0; what <= 16; what++) {
            s.append(' ').append(x.about(what));
        }
        s.append("\n  area: ").append(x.area());
        for (int cell = 0; cell < CELLS; cell++) {
            s.append("\n  cell ").append(cell).append(':');
            for (int what = 2; what <= 11; what++) {
                s.append(' ').append(x.cellOf(cell, what));
            }
        }
        for (int person = 0; person < PERSONS; person++) {
            s.append("\n  person ").append(person).append(':');
            for (int what = 0; what <= 7; what += what == 0 ? 5 : 1) {
                s.append(' ').append(x.personOf(person, what));
            }
        }
    }

    private static void lookAtLaw(RingsUnder x, StringBuilder s) {
        s.append("\n  law: ").append(x.fault(0)).append(' ').append(x.fault(1));
        for (int what = 0; what < 3; what++) {
            s.append("\n  says ").append(x.says(7, what)).append(", is and why");
            for (int person = 0; person < PERSONS; person++) {
                s.append(' ').append(x.is(what, person, 7)).append(x.why(what, person, 7));
            }
        }
        s.append("\n  council: ").append(x.council(5));
    }

    private static void lookAtTheRest(RingsUnder x, StringBuilder s) {
        for (int cell = 0; cell < CELLS; cell++) {
            s.append("\n  cell ").append(cell).append(": ").append(x.cellOf(cell, 0)).append(' ').append(x.cellOf(cell, 1));
            s.append(", title ").append(x.titleOf(cell, 0)).append(' ').append(x.titleOf(cell, 1));
            s.append(", graves ").append(x.found(cell, 0)).append(' ').append(x.found(cell, 1));
        }
        for (int person = 0; person < PERSONS; person++) {
            s.append("\n  person ").append(person).append(':');
            for (int what = 1; what <= 4; what++) {
                s.append(' ').append(x.personOf(person, what));
            }
        }
        s.append("\n  at:");
        for (int place : new int[] {0, 1, 100, 101, 200, 300}) {
            s.append(' ').append(x.at(place));
        }
        for (int rise = 0; rise < 3; rise++) {
            s.append("\n  levels ").append(rise).append(':');
            for (int month = 2; month <= 5; month++) {
                s.append(' ').append(x.levelOf(rise, month, 600));
            }
        }
    }
}
