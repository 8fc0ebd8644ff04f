import java.util.ArrayList;
import java.util.List;
import java.util.Random;

/**
 * What a session is told hangs on nothing above its label: runs are played once more without what was called above a
 * label, the rows that were lowered to it and below it coming as they came, and what is told there must be the same.
 */
public final class SecrecyTest {
    private record Step(int session, String kind, String text, int number) { }

    private static final String[] NAMES = {"t", "u", "v"};
    private static int wrong;
    private static int compared;
    private static int lowered;
    private final Random random;
    private final int[] labels;
    private final int seed;

    private SecrecyTest(int seed) {
        this.seed = seed;
        random = new Random(seed);
        int[][] sets = {{0, 1, 2, 3}, {0, 16, 17, 33}, {0, 1, 16, 17}, {0, 5, 10, 15, 63}};
        labels = sets[random.nextInt(sets.length)];
    }

    private static String pick(Random random, String... some) {
        return some[random.nextInt(some.length)];
    }

    private String statement() {
        String name = pick(random, NAMES);
        int key = random.nextInt(5);
        switch (random.nextInt(16)) {
            case 0:
                return "table " + name + "(a key,b num,c " + pick(random, "uniq", "num", "ref t", "ref u") + ")";
            case 1:
                return random.nextInt(4) > 0 ? "get count from " + name : "drop " + name;
            case 2: case 3:
                return "set " + name + " b=b+1" + (random.nextBoolean() ? " if a=" + key : "");
            case 4: case 5:
                return "cut " + name + " if a=" + key;
            case 6: case 7:
                return "lower " + name + " " + key + " to " + labels[random.nextInt(labels.length)];
            case 8: case 9:
                return "get " + pick(random, "", "each ") + "label,a,b,c from " + name;
            default:
                return "put " + name + "(" + key + "," + random.nextInt(3) + "," + pick(random, "none", "" + random.nextInt(5)) + ")";
        }
    }

    private Step step() {
        int session = random.nextInt(5);
        int kind = random.nextInt(100);
        if (kind < 70) {
            return new Step(session, "say", statement(), 0);
        }
        if (kind < 76) {
            return new Step(session, "enter", "", labels[random.nextInt(labels.length)]);
        }
        return new Step(session, pick(random, "begin", "end", "end", "giveUp", "checksum", "checksum", "seen", "tables", "reason", "veilShare",
                "meanLevel", "audit"), "" + pick(random, "d", "r", "f", "c"), labels[random.nextInt(labels.length)]);
    }

    private static Object play(Levelhouse x, Step s) {
        return Desk.outcome(() -> {
            switch (s.kind) {
                case "enter": return x.enter(s.session, s.number);
                case "begin": return x.begin(s.session);
                case "end": return x.end(s.session);
                case "giveUp": return x.giveUp(s.session);
                case "checksum": return x.checksum(s.session);
                case "seen": return x.seen(s.session);
                case "tables": return x.tables(s.session);
                case "reason": return x.reason(s.session);
                case "veilShare": return x.veilShare(s.session);
                case "meanLevel": return x.meanLevel(s.session);
                case "audit": return x.audit(s.session, s.number, s.text.charAt(0));
                default:
            }
            for (char sign : s.text.toCharArray()) {
                x.type(s.session, sign);
            }
            int told = x.run(s.session);
            StringBuilder all = new StringBuilder().append(told);
            for (int r = 0; r < x.rows(s.session); r++) {
                for (int c = 0; c < x.columns(s.session); c++) {
                    all.append(' ').append(x.isKnown(s.session, r, c) ? "" + x.cell(s.session, r, c) : "-");
                }
            }
            return all.toString();
        });
    }

    private static Object play(Model x, Step s) {
        return Desk.outcome(() -> {
            switch (s.kind) {
                case "enter": return x.enter(s.session, s.number);
                case "begin": return x.begin(s.session);
                case "end": return x.end(s.session);
                case "giveUp": return x.giveUp(s.session);
                case "checksum": return x.checksum(s.session);
                case "seen": return x.seen(s.session);
                case "tables": return x.tables(s.session);
                case "reason": return x.reason(s.session);
                case "veilShare": return x.veilShare(s.session);
                case "meanLevel": return x.meanLevel(s.session);
                case "audit": return x.audit(s.session, s.number, s.text.charAt(0));
                default:
            }
            x.typeAll(s.session, s.text);
            int told = x.run(s.session);
            StringBuilder all = new StringBuilder().append(told);
            for (List<Integer> row : x.sessions[s.session].answer) {
                for (Integer cell : row) {
                    all.append(' ').append(cell == null ? "-" : "" + cell);
                }
            }
            return all.toString();
        });
    }

    /** The last entry that ended, if it is a row that a step has just lowered. */
    private static Model.Spot lowered(Model full, int endedBefore, Step s) {
        boolean is = s.kind.equals("say") && s.text.startsWith("lower") && full.ended.size() > endedBefore;
        return is ? full.ended.get(full.ended.size() - 1) : null;
    }

    private void run() {
        List<Step> steps = new ArrayList<>();
        for (int i = 0; i < 5; i++) {
            steps.add(new Step(i, "enter", "", labels[random.nextInt(labels.length)]));
        }
        steps.add(new Step(0, "say", "table t(a key,b num,c num)", 0));
        steps.add(new Step(1, "say", "table u(a key,b num,c ref t)", 0));
        for (int i = 0; i < 150; i++) {
            steps.add(step());
        }
        for (int observer : labels) {
            compare(steps, observer);
        }
    }

    private void compare(List<Step> steps, int observer) {
        Levelhouse house = new Levelhouse();
        Model full = new Model();
        Model less = new Model();
        for (Step s : steps) {
            int label = house.label(s.session);
            int before = full.ended.size();
            Object told = play(house, s);
            play(full, s);
            if (s.kind.equals("enter")) {
                play(less, s);
                continue;
            }
            if (Model.below(label, observer)) {
                Object due = play(less, s);
                compared++;
                if (!told.equals(due)) {
                    wrong++;
                    System.out.println("seed " + seed + ", at " + observer + ": " + s + " was told " + told + ", due is " + due);
                    return;
                }
                continue;
            }
            Model.Spot spot = lowered(full, before, s);
            if (spot != null && Model.below(spot.label(), observer)) {
                Model.Table table = null;
                for (Model.Table t : less.tables) {
                    table = t.name.equals(spot.table().name) && t.label == spot.table().label ? t : table;
                }
                Model.Spot same = new Model.Spot(table, spot.key(), spot.label());
                less.entries = new java.util.HashMap<>(less.entries);
                less.entries.put(same, full.entries.get(spot));
                less.ended.add(same);
                lowered++;
            }
        }
    }

    public static void main(String[] args) {
        for (int seed = 1; seed <= 2000 && wrong == 0; seed++) {
            new SecrecyTest(seed).run();
        }
        System.out.println("SecrecyTest: " + compared + " answers, " + lowered + " rows lowered, " + wrong + " not as due");
        if (wrong != 0 || lowered == 0) {
            System.exit(1);
        }
    }
}
