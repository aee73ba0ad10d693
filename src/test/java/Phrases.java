import java.util.Random;

/** Random TEXTS: mostly ones that stand, some with TOKENS put in, changed or cut off. */
final class Phrases {
    private static final String[] NAMES = {"age", "kin", "craft", "place", "month", "under"};
    private static final String[] SIGNS = {"<", "<=", ">", ">=", "=", "#"};
    private static final String[] STRAY = {"(", ")", "not ", "-", ",", ";", "10000", "and ", "or ", "may ", "?", "\t",
        "age ", "Age ", "7", "order ", "council ", "<", "=", "fix ", "leave 3;", "- ", "((((((((", "--------", "notnot "};

    private final Random random;

    Phrases(Random random) {
        this.random = random;
    }

    void text(StringBuilder out) {
        int most = random.nextInt(30) == 0 ? 25 : 1 + random.nextInt(5);
        for (int i = 0; i < most; i++) {
            clause(out, most > 20);
        }
        if (random.nextInt(4) == 0) {
            spoil(out);
        } else if (random.nextInt(12) == 0) {
            nest(out);
        }
    }

    private void spoil(StringBuilder out) {
        for (int i = random.nextInt(3); i >= 0; i--) {
            int at = random.nextInt(out.length() + 1);
            String stray = STRAY[random.nextInt(STRAY.length)];
            switch (random.nextInt(4)) {
                case 0:
                    out.setLength(at);
                    break;
                case 1:
                    out.delete(at, Math.min(out.length(), at + 1 + random.nextInt(4)));
                    break;
                default:
                    out.insert(at, stray);
            }
        }
    }

    /** About as many ( not and - around one another as may be open. */
    private void nest(StringBuilder out) {
        out.append("vote ");
        int depth = 6 + random.nextInt(4);
        int nots = random.nextInt(depth + 1);
        StringBuilder closes = new StringBuilder();
        for (int i = 0; i < depth; i++) {
            if (i < nots) {
                out.append("not ");
            } else if (random.nextBoolean()) {
                out.append('-');
            } else {
                out.append(random.nextInt(3) == 0 ? "(age*" : "(");
                closes.append(')');
            }
        }
        out.append(random.nextInt(5) == 0 ? "10000" : "kin").append(closes);
        if (nots < depth && random.nextBoolean()) {
            out.append("+-kin");
        }
        out.append(">-1;");
    }

    private void blank(StringBuilder out) {
        out.append(random.nextInt(8) == 0 ? "\n " : " ");
    }

    private void clause(StringBuilder out, boolean shortOnes) {
        int sort = shortOnes ? 2 : random.nextInt(12);
        switch (sort) {
            case 0:
            case 1:
                out.append("lasts ");
                either(out);
                break;
            case 2:
                out.append("may age>").append(random.nextInt(99));
                break;
            case 3:
                out.append("people ");
                either(out);
                break;
            case 4:
            case 5:
                out.append("may ");
                either(out);
                break;
            case 6:
                out.append("vote ");
                either(out);
                break;
            case 7:
                out.append("order ");
                keys(out);
                break;
            case 8:
                out.append("heir ");
                keys(out);
                break;
            case 9:
                out.append("council ").append(random.nextInt(random.nextInt(9) == 0 ? 104 : 101));
                break;
            case 10:
                out.append("fix ").append(random.nextInt(random.nextInt(9) == 0 ? 604 : 40));
                break;
            default:
                out.append("leave ").append(random.nextInt(random.nextInt(9) == 0 ? 1010 : 200));
        }
        out.append(';');
        if (random.nextBoolean()) {
            blank(out);
        }
    }

    private void keys(StringBuilder out) {
        int keys = 1 + random.nextInt(random.nextInt(9) == 0 ? 5 : 4);
        for (int i = 0; i < keys; i++) {
            out.append(i > 0 ? "," : "").append(random.nextBoolean() ? "-" : "").append(NAMES[random.nextInt(6)]);
        }
    }

    private void either(StringBuilder out) {
        ask(out);
        while (random.nextInt(3) == 0) {
            out.append(random.nextBoolean() ? " and " : " or ");
            ask(out);
        }
    }

    private void ask(StringBuilder out) {
        while (random.nextInt(5) == 0) {
            out.append("not ");
        }
        sum(out, 0);
        out.append(SIGNS[random.nextInt(6)]);
        sum(out, 0);
    }

    private void sum(StringBuilder out, int depth) {
        product(out, depth);
        while (random.nextInt(4) == 0) {
            out.append(random.nextBoolean() ? "+" : "-");
            product(out, depth);
        }
    }

    private void product(StringBuilder out, int depth) {
        one(out, depth);
        while (random.nextInt(4) == 0) {
            out.append(random.nextBoolean() ? "*" : "/");
            one(out, depth);
        }
    }

    private void one(StringBuilder out, int depth) {
        int kind = random.nextInt(10);
        if (kind == 0 && depth < 10) {
            out.append('-');
            one(out, depth + 1);
        } else if (kind == 1 && depth < 10) {
            out.append('(');
            sum(out, depth + 1);
            out.append(')');
        } else if (kind < 5) {
            out.append(random.nextInt(8) == 0 ? random.nextInt(10001) : random.nextInt(60));
        } else {
            out.append(NAMES[random.nextInt(6)]);
        }
    }
}
