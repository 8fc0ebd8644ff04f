import java.util.Random;
import java.util.TreeSet;

/** Compares the class with the model, over random runs of 512 calls with fixed seeds. */
public final class ModelTest {
    private interface Call {
        Object answer();
    }

    private static final int CALLS = 512;
    private static final String[] NAMES = {"t", "u", "v"};
    private static final String[] COLUMNS = {"a", "b", "c", "d", "e"};
    private static int wrong;
    private final Random random;
    private final int seed;
    private final int[] labels;
    private final int keys;
    private final Levelhouse house = new Levelhouse();
    private final Model model = new Model();
    private final StringBuilder story = new StringBuilder();
    private int calls;
    private int who;
    private String[] columns = COLUMNS;

    private ModelTest(int seed) {
        this.seed = seed;
        random = new Random(seed);
        int[][] sets = {{0, 1, 2, 3}, {0, 0, 16, 17, 18, 19}, {0, 16, 32, 48}, {0, 5, 21, 63}, {0}, {0, 1, 2, 4, 8, 15, 63},
            {3, 5, 6, 7, 23, 0}};
        labels = sets[random.nextInt(sets.length)];
        keys = chance(50) ? 6 : 20;
    }

    private static Object outcome(Call call) {
        try {
            return call.answer();
        } catch (RuntimeException e) {
            return e.getClass().getSimpleName();
        }
    }

    private void same(String name, Call ours, Call due) {
        if (wrong > 5) {
            return;
        }
        calls++;
        Object got = outcome(ours);
        Object want = outcome(due);
        story.append(name).append(" -> ").append(want).append('\n');
        if (!got.equals(want)) {
            wrong++;
            System.out.println("seed " + seed + ", call " + calls + ": " + name + " answered " + got + ", due is " + want);
            if (wrong == 1) {
                System.out.println(story);
            }
        }
    }

    private String pick(String... some) {
        return some[random.nextInt(some.length)];
    }

    private boolean chance(int percent) {
        return random.nextInt(100) < percent;
    }

    /** A name, mostly of a table that the session has; columns are its own from then on. */
    private String name() {
        columns = COLUMNS;
        if (chance(2)) {
            return pick("zz", "get", "tablex", "toolongname");
        }
        String name = pick(NAMES);
        for (int i = 0; i < 4 && meantTable(name) == null; i++) {
            name = pick(NAMES);
        }
        if (meantTable(name) != null) {
            columns = meantTable(name).columns.toArray(new String[0]);
        }
        return name;
    }

    private Model.Table meantTable(String name) {
        return who >= 0 && who < 8 ? model.tableNamed(name, model.session(who).label) : null;
    }

    private String column() {
        return chance(1) ? pick("zz", "label", "key", "e") : pick(columns);
    }

    private String number() {
        return chance(3) ? pick("999999999", "1000000000", "99999", "0") : "" + random.nextInt(6);
    }

    private String expression(int depth, boolean rows) {
        int kind = random.nextInt(depth <= 0 ? 4 : 12);
        switch (kind) {
            case 0: case 1:
                return number();
            case 2:
                return rows ? column() : number();
            case 3:
                return chance(20) ? "none" : rows && chance(30) ? "label" : rows ? column() : number();
            case 4:
                return "(" + expression(depth - 1, rows) + ")";
            case 5:
                return pick("-", "!", "known ") + expression(depth - 1, rows);
            default:
                return expression(depth - 1, rows) + pick("|", "&", "=", "#", "<", ">", "+", "-", "*", "/", "%", "+", "=")
                        + expression(depth - 1, rows);
        }
    }

    private String condition(int percent) {
        return chance(percent) ? " if " + expression(random.nextInt(3), true) : "";
    }

    private String get() {
        String name = name();
        StringBuilder s = new StringBuilder("get ");
        s.append(chance(20) ? "each " : "");
        boolean grouped = chance(40);
        if (chance(30) && (!grouped || chance(10))) {
            s.append("all");
        } else {
            int many = 1 + random.nextInt(3);
            for (int i = 0; i < many; i++) {
                s.append(i > 0 ? "," : "");
                if (grouped && chance(60)) {
                    s.append(chance(30) ? "count" : pick("sum", "least", "most") + "(" + expression(1, true) + ")");
                } else {
                    s.append(grouped ? pick("a", column(), "a+" + column(), "1", column() + "*2") : expression(random.nextInt(2), true));
                }
            }
        }
        s.append(" from ").append(name);
        if (chance(25)) {
            String on = column();
            s.append(" join ").append(name()).append(" on ").append(on).append('=').append(column());
        }
        s.append(condition(30));
        if (grouped && chance(70)) {
            s.append(" by ").append(pick("a", column(), "a," + column(), column() + ",a", column()));
        }
        if (chance(25)) {
            s.append(pick(" up ", " down ")).append(random.nextInt(4));
        }
        if (chance(15)) {
            s.append(" top ").append(random.nextInt(5));
        }
        return s.toString();
    }

    private String table() {
        StringBuilder s = new StringBuilder("table " + name() + "(a ");
        s.append(chance(75) ? "key" : chance(90) ? "auto" : "num");
        int many = random.nextInt(4);
        for (int i = 1; i <= many; i++) {
            s.append(",").append(chance(96) ? COLUMNS[i] : column()).append(' ');
            s.append(chance(30) ? "ref " + name() : chance(30) ? "uniq" : chance(98) ? "num" : "key");
        }
        s.append(')');
        return s + (chance(20) ? " if " + pick("a<50", "b<5|!known b", "label>0", "a#2", expression(2, true)) : "");
    }

    private String put() {
        StringBuilder s = new StringBuilder("put " + name() + "(" + (chance(25) ? "next" : expression(chance(15) ? 1 : 0, chance(3))));
        int many = random.nextInt(4);
        for (int i = 0; i < many; i++) {
            s.append(',').append(chance(15) ? "none" : expression(chance(15) ? 2 : 0, chance(3)));
        }
        return s + ")";
    }

    /** A put that fits a table that there is, more often than not. */
    private String fittingPut() {
        Model.Table t = meantTable(name());
        if (t == null) {
            return table();
        }
        StringBuilder s = new StringBuilder("put " + t.name + "(");
        s.append(t.kinds.get(0).equals("auto") ? "next" : "" + random.nextInt(chance(20) ? 30 : keys));
        for (int i = 1; i < t.columns.size(); i++) {
            s.append(',').append(chance(20) ? "none" : "" + random.nextInt(6));
        }
        return s + ")";
    }

    private String set() {
        StringBuilder s = new StringBuilder("set " + name() + " ");
        int many = chance(80) || columns.length < 3 ? 1 : 2;
        for (int i = 0; i < many; i++) {
            s.append(i > 0 ? "," : "").append(chance(97) && columns.length > 1 + i ? columns[1 + i] : column()).append('=').append(expression(random.nextInt(3), true));
        }
        return s + condition(60);
    }

    /** A statement in which some tokens are other ones. */
    private String soup(String text) {
        StringBuilder s = new StringBuilder();
        for (Model.Token token : Model.tokens(text)) {
            String other = pick("get", "each", "all", "from", "join", "on", "if", "by", "up", "down", "top", "put", "next", "set", "cut", "table",
                    "key", "num", "ref", "to", "label", "count", "sum", "most", "none", "known", "a", "b", "t", "u", "1", "2", "(", ")", ",", "=", "#",
                    "<", "+", "-", "*", "%", "&", "|", "!", "a", "b", "1", ",", ")");
            s.append(chance(10) ? other : token.text()).append(chance(5) ? " " + other : "").append(' ');
        }
        return s.toString();
    }

    private String statement(int session) {
        who = session;
        columns = COLUMNS;
        int kind = random.nextInt(100);
        String s = kind < 2 || model.tables.size() < 2 && kind < 15 ? table() : kind < 3 && chance(40) ? "drop " + name() : kind < 45 ? fittingPut() : kind < 48 ? put()
                : kind < 62 ? set() : kind < 72 ? "cut " + name() + condition(60)
                : kind < 78 ? lower()
                : kind < 79 ? "lower " + name() + " " + expression(1, false) + " to " + expression(1, chance(20)) : get();
        if (chance(3)) {
            String other = chance(50) ? get() : chance(50) ? set() : table();
            s = s.substring(0, random.nextInt(s.length())) + other.substring(random.nextInt(other.length()));
        }
        if (chance(3)) {
            s = soup(s);
        }
        if (chance(4)) {
            int at = random.nextInt(s.length());
            s = chance(50) ? s.substring(0, at) + s.substring(at + 1)
                    : s.substring(0, at) + (chance(90) ? (char) (32 + random.nextInt(95)) : ' ') + s.substring(at);
        }
        if (chance(2)) {
            s = s.replace(" ", "  ");
        }
        return s.length() > 120 ? s.substring(0, 120) : s;
    }

    private TreeSet<Integer> keysAt(Model.Session own, Model.Table table) {
        TreeSet<Integer> all = new TreeSet<>();
        for (Model.Spot spot : model.view(own).keySet()) {
            if (spot.table() == table && spot.label() == own.label) {
                all.add(spot.key());
            }
        }
        return all;
    }

    /** Mostly of a row that the session has, to a label that may be told. */
    private String lower() {
        String name = name();
        Model.Table t = meantTable(name);
        int key = random.nextInt(keys);
        int to = labels[random.nextInt(labels.length)];
        if (t != null && chance(90)) {
            Model.Session own = model.session(who);
            for (int k : keysAt(own, t)) {
                key = chance(50) ? k : key;
            }
            for (int i = 0; i < 9 && (to == own.label || !Model.below(to, own.label)); i++) {
                to = random.nextInt(64);
            }
            to = chance(30) ? t.label : to;
        }
        return "lower " + name + " " + key + " to " + to;
    }

    private void typeAll(int s, String text) {
        for (int i = 0; i < text.length(); i += 8) {
            String part = text.substring(i, Math.min(i + 8, text.length()));
            char[] c = (part + "        ").toCharArray();
            same("typeMore(" + s + ", '" + part + "')", () -> house.typeMore(s, part.length(), c[0], c[1], c[2], c[3], c[4], c[5],
                    c[6], c[7]), () -> model.typeAll(s, part));
        }
    }

    private void ask(int s) {
        switch (random.nextInt(14)) {
            case 0:
                same("checksum(" + s + ")", () -> house.checksum(s), () -> model.checksum(s));
                break;
            case 1:
                same("seen(" + s + ")", () -> house.seen(s), () -> model.seen(s));
                break;
            case 2:
                same("reason(" + s + ")", () -> house.reason(s), () -> model.reason(s));
                break;
            case 3:
                same("tables(" + s + ")", () -> house.tables(s), () -> model.tables(s));
                break;
            case 4:
                same("veilShare(" + s + ")", () -> house.veilShare(s), () -> model.veilShare(s));
                break;
            case 5:
                same("meanLevel(" + s + ")", () -> house.meanLevel(s), () -> model.meanLevel(s));
                break;
            case 6: {
                int l = chance(5) ? random.nextInt(70) - 3 : labels[random.nextInt(labels.length)];
                char w = "drfcx".charAt(random.nextInt(5));
                same("audit(" + s + "," + l + "," + w + ")", () -> house.audit(s, l, w), () -> model.audit(s, l, w));
                break;
            }
            case 7:
                same("isOpen(" + s + ")", () -> house.isOpen(s), () -> model.session(s).open);
                break;
            case 8:
                same("label(" + s + ")", () -> house.label(s), () -> model.session(s).label);
                break;
            case 9:
                same("isSound()", () -> house.isSound(), () -> true);
                break;
            case 10: {
                int l = random.nextInt(66) - 1;
                int k = random.nextInt(64);
                same("isAbove(" + l + "," + k + ")", () -> house.isAbove(l, k), () -> {
                    Model.mustBeLabel(l);
                    return Model.below(k, l);
                });
                same("joined(" + l + "," + k + ")", () -> house.joined(l, k), () -> {
                    Model.mustBeLabel(l);
                    return Model.join(k, l);
                });
                break;
            }
            case 11:
                same("erase(" + s + ")", () -> house.erase(s), () -> model.erase(s));
                break;
            default: {
                int r = random.nextInt(4) - (chance(5) ? 1 : 0);
                int c = random.nextInt(4) - (chance(5) ? 1 : 0);
                same("isKnown(" + s + "," + r + "," + c + ")", () -> house.isKnown(s, r, c), () -> model.place(s, r, c) != null);
                same("cell(" + s + "," + r + "," + c + ")", () -> house.cell(s, r, c), () -> model.cell(s, r, c));
            }
        }
    }

    private void answerOf(int s) {
        same("rows(" + s + ")", () -> house.rows(s), () -> model.session(s).answer.size());
        same("columns(" + s + ")", () -> house.columns(s), () -> model.session(s).width);
        for (int r = 0; r < 20 && r < model.session(s).answer.size(); r++) {
            for (int c = 0; c < model.session(s).width; c++) {
                int row = r;
                int column = c;
                same("cell(" + s + "," + r + "," + c + ")", () -> house.cell(s, row, column), () -> model.cell(s, row, column));
            }
        }
    }

    private void transact(int s) {
        int kind = random.nextInt(10);
        if (!(s >= 0 && s < 8 && model.session(s).open) && (kind < 8 || chance(50))) {
            same("begin(" + s + ")", () -> house.begin(s), () -> model.begin(s));
        } else if (kind < 7) {
            same("end(" + s + ")", () -> house.end(s), () -> model.end(s));
        } else {
            same("giveUp(" + s + ")", () -> house.giveUp(s), () -> model.giveUp(s));
        }
    }

    private void step() {
        int s = chance(1) ? random.nextInt(12) - 2 : random.nextInt(chance(80) ? 3 : 8);
        int kind = random.nextInt(100);
        if (kind < 60) {
            String text = statement(s);
            typeAll(s, text);
            same("run(" + s + ") '" + text + "'", () -> house.run(s), () -> model.run(s));
            if (text.startsWith("get") && s >= 0 && s < 8) {
                answerOf(s);
            }
        } else if (kind < 70) {
            transact(s);
        } else if (kind < 76) {
            int l = chance(3) ? random.nextInt(70) - 3 : labels[random.nextInt(labels.length)];
            same("enter(" + s + "," + l + ")", () -> house.enter(s, l), () -> model.enter(s, l));
        } else if (kind < 77) {
            char c = (char) random.nextInt(140);
            same("type(" + s + "," + (int) c + ")", () -> house.type(s, c), () -> model.typeAll(s, "" + c));
        } else {
            ask(s);
        }
    }

    private void run() {
        for (int s = 0; s < 3; s++) {
            int who = s;
            int l = labels[random.nextInt(labels.length)];
            same("enter(" + s + "," + l + ")", () -> house.enter(who, l), () -> model.enter(who, l));
        }
        while (calls < CALLS && wrong == 0) {
            step();
        }
    }

    public static void main(String[] args) {
        int from = args.length > 0 ? Integer.parseInt(args[0]) : 1;
        int many = args.length > 1 ? Integer.parseInt(args[1]) : 3000;
        for (int seed = from; seed < from + many && wrong == 0; seed++) {
            new ModelTest(seed).run();
        }
        System.out.println(wrong == 0 ? "ModelTest: all answers are as due" : "ModelTest: " + wrong + " answers are not as due");
        if (wrong != 0) {
            System.exit(1);
        }
    }
}
