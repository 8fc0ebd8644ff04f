import java.util.ArrayList;
import java.util.Arrays;
import java.util.Comparator;
import java.util.HashMap;
import java.util.HashSet;
import java.util.LinkedHashMap;
import java.util.LinkedHashSet;
import java.util.List;
import java.util.Map;
import java.util.NoSuchElementException;
import java.util.Set;
import java.util.TreeSet;

/** The document once more, slow and with the Java library, to compare the class with. */
final class Model {
    static final Set<String> RESERVED = new HashSet<>(Arrays.asList(("get each all from join on if by up down top put next"
            + " set cut table drop key auto num uniq ref lower to label count sum least most none known").split(" ")));

    static final class Table {
        String name;
        int label;
        List<String> columns = new ArrayList<>();
        List<String> kinds = new ArrayList<>();
        List<Table> refs = new ArrayList<>();
        Node check;
        boolean dropped;
        Map<Integer, Integer> given = new HashMap<>();
    }

    record Spot(Table table, int key, int label) { }

    /** A row of numbers, null being nothing; the first table's row, and perhaps the second one's. */
    record Pair(Spot one, Integer[] cells, Spot two, Integer[] others) {
        int label() {
            return two == null ? one.label : join(one.label, two.label);
        }
    }

    interface Names {
        Integer find(String name, Pair row);
    }

    interface Node {
        Integer value(Pair row, Names names);

        default void walk(List<Leaf> leaves) { }
    }

    /** A name of a column, or label. */
    static final class Leaf implements Node {
        String name;
        int place;

        public Integer value(Pair row, Names names) {
            return name.equals("label") ? (Integer) row.label() : names.find(name, row);
        }

        public void walk(List<Leaf> leaves) {
            leaves.add(this);
        }
    }

    static final class Constant implements Node {
        Integer number;

        public Integer value(Pair row, Names names) {
            return number;
        }
    }

    static final class Unary implements Node {
        String op;
        Node of;

        public Integer value(Pair row, Names names) {
            Integer v = of.value(row, names);
            if (op.equals("-")) {
                return v == null ? null : -v;
            }
            if (op.equals("known")) {
                return v == null ? 0 : 1;
            }
            return truth(v) ? 0 : 1;
        }

        public void walk(List<Leaf> leaves) {
            of.walk(leaves);
        }
    }

    static final class Binary implements Node {
        String op;
        Node left;
        Node right;

        public Integer value(Pair row, Names names) {
            Integer a = left.value(row, names);
            Integer b = right.value(row, names);
            if (op.equals("|")) {
                return truth(a) || truth(b) ? 1 : 0;
            }
            if (op.equals("&")) {
                return truth(a) && truth(b) ? 1 : 0;
            }
            boolean numbers = a != null && b != null;
            switch (op) {
                case "=": return numbers && a.intValue() == b.intValue() ? 1 : 0;
                case "#": return numbers && a.intValue() != b.intValue() ? 1 : 0;
                case "<": return numbers && a < b ? 1 : 0;
                case ">": return numbers && a > b ? 1 : 0;
                default:
            }
            if (!numbers) {
                return null;
            }
            long x = a;
            long y = b;
            switch (op) {
                case "+": return fit(x + y);
                case "-": return fit(x - y);
                case "*": return fit(x * y);
                case "/": return y == 0 ? null : fit((long) Math.floor((double) x / (double) y));
                default: return y == 0 ? null : fit(x - y * (long) Math.floor((double) x / (double) y));
            }
        }

        public void walk(List<Leaf> leaves) {
            left.walk(leaves);
            right.walk(leaves);
        }
    }

    static boolean truth(Integer v) {
        return v != null && v != 0;
    }

    static Integer fit(long v) {
        return v >= -999999999L && v <= 999999999L ? (Integer) (int) v : null;
    }

    static final class Fault extends RuntimeException {
        final int place;

        Fault(int place) {
            super(null, null, false, false);
            this.place = place;
        }
    }

    static final class Refused extends RuntimeException {
        final char letter;

        Refused(char letter) {
            super(null, null, false, false);
            this.letter = letter;
        }
    }

    static final class Session {
        int label;
        StringBuilder text = new StringBuilder();
        List<List<Integer>> answer = new ArrayList<>();
        int width;
        char reason;
        boolean open;
        Map<Spot, Integer[]> view;
        Set<Spot> changed = new LinkedHashSet<>();
        int since;
    }

    static final Integer[] VEIL = new Integer[0];
    final Session[] sessions = new Session[8];
    final List<Table> tables = new ArrayList<>();
    Map<Spot, Integer[]> entries = new HashMap<>();
    final List<Spot> ended = new ArrayList<>();
    final Map<String, Integer> counts = new HashMap<>();

    Model() {
        for (int i = 0; i < 8; i++) {
            sessions[i] = new Session();
        }
    }

    static boolean below(int a, int b) {
        return a / 16 <= b / 16 && ((a % 16) | (b % 16)) == b % 16;
    }

    static int join(int a, int b) {
        return 16 * Math.max(a / 16, b / 16) + (a % 16 | b % 16);
    }

    Session session(int s) {
        if (s < 0 || s > 7) {
            throw new IndexOutOfBoundsException();
        }
        return sessions[s];
    }

    static void mustBeLabel(int l) {
        if (l < 0 || l > 63) {
            throw new IllegalArgumentException();
        }
    }

    void count(int label, char what) {
        counts.merge(label + " " + what, 1, Integer::sum);
    }

    int typeAll(int s, String signs) {
        Session own = session(s);
        for (int i = 0; i < signs.length(); i++) {
            if (signs.charAt(i) < 32 || signs.charAt(i) > 126) {
                throw new IllegalArgumentException();
            }
        }
        if (own.text.length() + signs.length() > 120) {
            throw new IllegalStateException();
        }
        own.text.append(signs);
        return own.text.length();
    }

    int erase(int s) {
        int n = session(s).text.length();
        session(s).text.setLength(0);
        return n;
    }

    int enter(int s, int label) {
        Session own = session(s);
        mustBeLabel(label);
        int before = own.label;
        sessions[s] = new Session();
        sessions[s].label = label;
        return before;
    }

    Map<Spot, Integer[]> view(Session own) {
        return own.open ? own.view : entries;
    }

    Map<Spot, Integer[]> live(Map<Spot, Integer[]> all, int label) {
        Map<Spot, Integer[]> some = new HashMap<>();
        all.forEach((spot, cells) -> {
            if (!spot.table.dropped && below(spot.label, label)) {
                some.put(spot, cells);
            }
        });
        return some;
    }

    Map<Spot, Integer[]> chosen(Map<Spot, Integer[]> all, int label) {
        Map<Spot, Integer[]> under = live(all, label);
        Map<Spot, Integer[]> some = new HashMap<>();
        under.forEach((spot, cells) -> {
            boolean top = true;
            for (Spot other : under.keySet()) {
                if (other.table == spot.table && other.key == spot.key && other.label != spot.label
                        && below(spot.label, other.label)) {
                    top = false;
                }
            }
            if (top && cells != VEIL) {
                some.put(spot, cells);
            }
        });
        return some;
    }

    static boolean met(Spot spot, Integer[] cells, Map<Spot, Integer[]> seen) {
        for (int i = 1; i < cells.length; i++) {
            Table ref = spot.table.refs.get(i);
            if (ref == null || cells[i] == null) {
                continue;
            }
            int key = cells[i];
            if (seen.keySet().stream().noneMatch(x -> x.table == ref && x.key == key)) {
                return false;
            }
        }
        return true;
    }

    Map<Spot, Integer[]> sight(Map<Spot, Integer[]> all, int label) {
        Map<Spot, Integer[]> seen = chosen(all, label);
        boolean again = true;
        while (again) {
            Map<Spot, Integer[]> now = seen;
            again = seen.entrySet().removeIf(e -> !met(e.getKey(), e.getValue(), new HashMap<>(now)));
        }
        return seen;
    }

    // ---- tokens

    record Token(String kind, String text, int place) { }

    static List<Token> tokens(String text) {
        List<Token> list = new ArrayList<>();
        int i = 0;
        while (i < text.length()) {
            char c = text.charAt(i);
            int start = i;
            if (c == ' ') {
                i++;
                continue;
            }
            if (c >= 'a' && c <= 'z') {
                while (i < text.length() && text.charAt(i) >= 'a' && text.charAt(i) <= 'z') {
                    i++;
                }
                String w = text.substring(start, i);
                list.add(new Token(w.length() > 6 ? "bad" : RESERVED.contains(w) ? w : "name", w, start));
            } else if (c >= '0' && c <= '9') {
                while (i < text.length() && text.charAt(i) >= '0' && text.charAt(i) <= '9') {
                    i++;
                }
                String w = text.substring(start, i);
                list.add(new Token(w.length() > 9 ? "bad" : "number", w, start));
            } else {
                i++;
                list.add(new Token("(),=#<>+-*/%&|!".indexOf(c) >= 0 ? "" + c : "bad", "" + c, start));
            }
        }
        list.add(new Token("end", "", text.length()));
        return list;
    }

    List<Token> list;
    int at;

    String peek() {
        return list.get(at).kind;
    }

    boolean accept(String kind) {
        if (peek().equals(kind)) {
            at++;
            return true;
        }
        return false;
    }

    Token expect(String... kinds) {
        Token t = list.get(at);
        for (String k : kinds) {
            if (t.kind.equals(k)) {
                at++;
                return t;
            }
        }
        throw new Fault(t.place);
    }

    static final String[][] LEVELS = {{"|"}, {"&"}, {"=", "#", "<", ">"}, {"+", "-"}, {"*", "/", "%"}};

    Node expression(int level) {
        if (level == 5) {
            return prefixed();
        }
        Node left = expression(level + 1);
        while (Arrays.asList(LEVELS[level]).contains(peek())) {
            Binary b = new Binary();
            b.op = list.get(at++).kind;
            b.left = left;
            b.right = expression(level + 1);
            left = b;
            if (level == 2) {
                break;
            }
        }
        return left;
    }

    Node prefixed() {
        Token t = expect("-", "!", "known", "number", "none", "label", "name", "(");
        switch (t.kind) {
            case "-": case "!": case "known": {
                Unary u = new Unary();
                u.op = t.kind;
                u.of = prefixed();
                return u;
            }
            case "number": {
                Constant c = new Constant();
                c.number = Integer.parseInt(t.text);
                return c;
            }
            case "none":
                return new Constant();
            case "(": {
                Node n = expression(0);
                expect(")");
                return n;
            }
            default: {
                Leaf l = new Leaf();
                l.name = t.text;
                l.place = t.place;
                return l;
            }
        }
    }

    // ---- statements

    static final class Item {
        String kind = "expression";
        Node node;
        int place;
    }

    final TreeSet<Integer> wrong = new TreeSet<>();

    Table tableNamed(String name, int label) {
        Table best = null;
        for (Table t : tables) {
            if (t.name.equals(name) && below(t.label, label) && (best == null || t.label > best.label)) {
                best = t;
            }
        }
        return best;
    }

    Table need(Token name, int label) {
        Table t = tableNamed(name.text, label);
        if (t == null) {
            wrong.add(name.place);
        }
        return t;
    }

    static List<Leaf> leaves(Node node) {
        List<Leaf> all = new ArrayList<>();
        if (node != null) {
            node.walk(all);
        }
        return all;
    }

    void columnsIn(Node node, Table one, Table two, boolean known) {
        for (Leaf l : leaves(node)) {
            if (known && !l.name.equals("label") && !one.columns.contains(l.name)
                    && !(two != null && two.columns.contains(l.name))) {
                wrong.add(l.place);
            }
        }
    }

    static Names names(Table one, Table two) {
        return (name, row) -> {
            int i = one.columns.indexOf(name);
            return i >= 0 ? row.cells[i] : row.others[two.columns.indexOf(name)];
        };
    }

    static Integer eval(Node node, Pair row, Table one, Table two) {
        return node.value(row, one == null ? null : names(one, two));
    }

    void endOfFaults() {
        if (!wrong.isEmpty()) {
            throw new Fault(wrong.first());
        }
    }

    int run(int s) {
        Session own = session(s);
        String text = own.text.toString();
        own.text.setLength(0);
        try {
            list = tokens(text);
            at = 0;
            wrong.clear();
            int told = statement(own);
            count(own.label, 'd');
            return told;
        } catch (Fault f) {
            count(own.label, 'f');
            return -1 - f.place;
        } catch (Refused r) {
            count(own.label, 'r');
            own.reason = r.letter;
            throw new UnsupportedOperationException();
        }
    }

    int statement(Session own) {
        switch (expect("get", "table", "drop", "put", "set", "cut", "lower").kind) {
            case "get": return get(own);
            case "table": return table(own);
            case "drop": return drop(own);
            case "put": return put(own);
            case "set": return set(own);
            case "cut": return cut(own);
            default: return lower(own);
        }
    }

    Node condition() {
        return accept("if") ? expression(0) : null;
    }

    int get(Session own) {
        boolean each = accept("each");
        Token all = null;
        List<Item> items = new ArrayList<>();
        if (peek().equals("all")) {
            all = list.get(at++);
        } else {
            do {
                Item item = new Item();
                item.place = list.get(at).place;
                if (accept("count")) {
                    item.kind = "count";
                } else if (peek().equals("sum") || peek().equals("least") || peek().equals("most")) {
                    item.kind = list.get(at++).kind;
                    expect("(");
                    item.node = expression(0);
                    expect(")");
                } else {
                    item.node = expression(0);
                }
                items.add(item);
            } while (accept(","));
        }
        expect("from");
        Token first = expect("name");
        Token second = null;
        Token onFirst = null;
        Token onSecond = null;
        if (accept("join")) {
            second = expect("name");
            expect("on");
            onFirst = expect("name");
            expect("=");
            onSecond = expect("name");
        }
        Node condition = condition();
        List<Token> by = new ArrayList<>();
        if (accept("by")) {
            do {
                by.add(expect("name"));
            } while (accept(","));
        }
        Token order = null;
        boolean down = false;
        if (peek().equals("up") || peek().equals("down")) {
            down = list.get(at++).kind.equals("down");
            order = expect("number");
        }
        Token top = accept("top") ? expect("number") : null;
        expect("end");

        Table one = need(first, own.label);
        Table two = second == null ? null : need(second, own.label);
        boolean known = one != null && (second == null || two != null);
        boolean grouped = !by.isEmpty() || items.stream().anyMatch(i -> !i.kind.equals("expression"));
        for (Item i : items) {
            columnsIn(i.node, one, two, known);
            if (grouped && i.kind.equals("expression")) {
                for (Leaf l : leaves(i.node)) {
                    if (by.stream().noneMatch(t -> t.text.equals(l.name))) {
                        wrong.add(l.place);
                    }
                }
            }
        }
        if (grouped && all != null) {
            wrong.add(all.place);
        }
        columnsIn(condition, one, two, known);
        for (Token t : by) {
            if (known && !one.columns.contains(t.text) && !(two != null && two.columns.contains(t.text))) {
                wrong.add(t.place);
            }
        }
        if (known && second != null) {
            if (!one.columns.contains(onFirst.text)) {
                wrong.add(onFirst.place);
            }
            if (!two.columns.contains(onSecond.text)) {
                wrong.add(onSecond.place);
            }
        }
        if (known && order != null) {
            int n = Integer.parseInt(order.text);
            int many = all == null ? items.size() : one.columns.size() + (two == null ? 0 : two.columns.size());
            if (n < 1 || n > many) {
                wrong.add(order.place);
            }
        }
        endOfFaults();

        Map<Spot, Integer[]> source = new HashMap<>(each ? live(view(own), own.label) : sight(view(own), own.label));
        source.values().removeIf(c -> c == VEIL);
        List<Pair> rows = new ArrayList<>();
        for (Map.Entry<Spot, Integer[]> a : source.entrySet()) {
            if (a.getKey().table != one) {
                continue;
            }
            if (second == null) {
                rows.add(new Pair(a.getKey(), a.getValue(), null, null));
                continue;
            }
            for (Map.Entry<Spot, Integer[]> b : source.entrySet()) {
                if (b.getKey().table == two) {
                    Integer x = a.getValue()[one.columns.indexOf(onFirst.text)];
                    Integer y = b.getValue()[two.columns.indexOf(onSecond.text)];
                    if (x != null && y != null && x.intValue() == y.intValue()) {
                        rows.add(new Pair(a.getKey(), a.getValue(), b.getKey(), b.getValue()));
                    }
                }
            }
        }
        final Table t1 = one;
        final Table t2 = two;
        rows.removeIf(r -> condition != null && !truth(eval(condition, r, t1, t2)));
        List<List<Integer>> answer = new ArrayList<>();
        if (grouped) {
            Map<List<Integer>, List<Pair>> groups = new LinkedHashMap<>();
            if (by.isEmpty()) {
                groups.put(List.of(), new ArrayList<>());
            }
            for (Pair r : rows) {
                List<Integer> key = new ArrayList<>();
                for (Token t : by) {
                    key.add(names(one, two).find(t.text, r));
                }
                groups.computeIfAbsent(key, k -> new ArrayList<>()).add(r);
            }
            for (List<Pair> group : groups.values()) {
                List<Integer> line = new ArrayList<>();
                for (Item i : items) {
                    line.add(aggregate(i, group, one, two));
                }
                answer.add(line);
            }
        } else {
            for (Pair r : rows) {
                List<Integer> line = new ArrayList<>();
                if (all != null) {
                    line.addAll(Arrays.asList(r.cells));
                    if (two != null) {
                        line.addAll(Arrays.asList(r.others));
                    }
                }
                for (Item i : items) {
                    line.add(eval(i.node, r, one, two));
                }
                answer.add(line);
            }
        }
        int width = all == null ? items.size() : one.columns.size() + (two == null ? 0 : two.columns.size());
        Comparator<List<Integer>> sorting = (a, b) -> 0;
        if (order != null) {
            sorting = column(Integer.parseInt(order.text) - 1);
            if (down) {
                sorting = sorting.reversed();
            }
        }
        for (int i = 0; i < width; i++) {
            sorting = sorting.thenComparing(column(i));
        }
        answer.sort(sorting);
        if (top != null && Integer.parseInt(top.text) < answer.size()) {
            answer = new ArrayList<>(answer.subList(0, Integer.parseInt(top.text)));
        }
        if (answer.size() > 150) {
            throw new Refused('m');
        }
        own.answer = answer;
        own.width = width;
        return answer.size();
    }

    static Comparator<List<Integer>> column(int i) {
        return (a, b) -> Long.compare(a.get(i) == null ? Long.MIN_VALUE : a.get(i),
                b.get(i) == null ? Long.MIN_VALUE : b.get(i));
    }

    static Integer aggregate(Item item, List<Pair> group, Table one, Table two) {
        if (item.kind.equals("count")) {
            return group.size();
        }
        if (item.kind.equals("expression")) {
            return eval(item.node, group.isEmpty() ? null : group.get(0), one, two);
        }
        List<Integer> numbers = new ArrayList<>();
        for (Pair r : group) {
            Integer v = eval(item.node, r, one, two);
            if (v != null) {
                numbers.add(v);
            }
        }
        if (numbers.isEmpty()) {
            return null;
        }
        switch (item.kind) {
            case "sum": return fit(numbers.stream().mapToLong(Integer::longValue).sum());
            case "least": return numbers.stream().mapToInt(Integer::intValue).min().getAsInt();
            default: return numbers.stream().mapToInt(Integer::intValue).max().getAsInt();
        }
    }

    int table(Session own) {
        Token name = expect("name");
        expect("(");
        Table made = new Table();
        made.name = name.text;
        made.label = own.label;
        do {
            Token column = expect("name");
            if (made.columns.contains(column.text) || made.columns.size() >= 5) {
                wrong.add(column.place);
            }
            Token kind = expect("key", "auto", "num", "uniq", "ref");
            if ((kind.text.equals("key") || kind.text.equals("auto")) != made.columns.isEmpty()) {
                wrong.add(kind.place);
            }
            made.refs.add(kind.text.equals("ref") ? need(expect("name"), own.label) : null);
            made.columns.add(column.text);
            made.kinds.add(kind.text);
        } while (accept(","));
        expect(")");
        made.check = condition();
        expect("end");
        columnsIn(made.check, made, null, true);
        endOfFaults();
        long of = tables.stream().filter(t -> t.label == own.label).count();
        if (of >= 3 || own.open || tables.stream().anyMatch(t -> t.label == own.label && t.name.equals(name.text))) {
            throw new Refused('t');
        }
        tables.add(made);
        return (int) of + 1;
    }

    int drop(Session own) {
        Token name = expect("name");
        expect("end");
        Table t = need(name, own.label);
        endOfFaults();
        if (t.label != own.label || own.open) {
            throw new Refused('t');
        }
        t.dropped = true;
        tables.remove(t);
        return 1;
    }

    void noRows(Node node) {
        for (Leaf l : leaves(node)) {
            wrong.add(l.place);
        }
    }

    int put(Session own) {
        Token name = expect("name");
        expect("(");
        List<Item> items = new ArrayList<>();
        do {
            Item item = new Item();
            item.place = list.get(at).place;
            if (accept("next")) {
                item.kind = "next";
            } else {
                item.node = expression(0);
            }
            items.add(item);
        } while (accept(","));
        int close = expect(")").place;
        expect("end");
        Table t = need(name, own.label);
        for (Item i : items) {
            noRows(i.node);
        }
        if (t != null) {
            if (items.size() < t.columns.size()) {
                wrong.add(close);
            }
            if (items.size() > t.columns.size()) {
                wrong.add(items.get(t.columns.size()).place);
            }
            for (int i = 0; i < items.size(); i++) {
                boolean due = i == 0 && t.kinds.get(0).equals("auto");
                if (due != items.get(i).kind.equals("next")) {
                    wrong.add(items.get(i).place);
                }
            }
        }
        endOfFaults();
        Integer[] cells = new Integer[t.columns.size()];
        boolean next = items.get(0).kind.equals("next");
        int given = t.given.getOrDefault(own.label, 0) + 1;
        for (int i = 0; i < cells.length; i++) {
            cells[i] = i == 0 && next ? (Integer) (64 * given + own.label) : eval(items.get(i).node, null, null, null);
        }
        if (cells[0] == null) {
            throw new Refused('n');
        }
        Spot spot = new Spot(t, cells[0], own.label);
        Map<Spot, Integer[]> draft = new HashMap<>(view(own));
        if (draft.containsKey(spot) && draft.get(spot) != VEIL) {
            throw new Refused('k');
        }
        draft.put(spot, cells);
        finish(own, t, draft, List.of(spot), List.of(spot));
        if (next) {
            t.given.put(own.label, given);
        }
        return 1;
    }

    long entriesOf(Map<Spot, Integer[]> all, Table t, int label) {
        return all.keySet().stream().filter(s -> s.table == t && s.label == label).count();
    }

    boolean twins(Map<Spot, Integer[]> all, Table t, int label) {
        for (int c = 1; c < t.columns.size(); c++) {
            if (!t.kinds.get(c).equals("uniq")) {
                continue;
            }
            Set<Integer> held = new HashSet<>();
            for (Map.Entry<Spot, Integer[]> e : all.entrySet()) {
                if (e.getKey().table == t && e.getKey().label == label && e.getValue() != VEIL
                        && e.getValue()[c] != null && !held.add(e.getValue()[c])) {
                    return true;
                }
            }
        }
        return false;
    }

    void finish(Session own, Table t, Map<Spot, Integer[]> draft, List<Spot> made, List<Spot> touched) {
        if (entriesOf(draft, t, own.label) > 12) {
            throw new Refused('f');
        }
        if (twins(draft, t, own.label)) {
            throw new Refused('u');
        }
        Map<Spot, Integer[]> seen = sight(draft, own.label);
        for (Spot s : made) {
            if (!met(s, draft.get(s), seen)) {
                throw new Refused('r');
            }
        }
        for (Spot s : made) {
            if (t.check != null && !truth(eval(t.check, new Pair(s, draft.get(s), null, null), t, null))) {
                throw new Refused('c');
            }
        }
        keep(own, draft, touched);
    }

    void keep(Session own, Map<Spot, Integer[]> draft, List<Spot> touched) {
        if (own.open) {
            own.view = draft;
            own.changed.addAll(touched);
        } else {
            entries = draft;
            ended.addAll(touched);
        }
    }

    /** The rows that are to be changed, of each key the one of the greatest label. */
    Map<Integer, Map.Entry<Spot, Integer[]>> meant(Session own, Table t, Node condition) {
        Map<Integer, Map.Entry<Spot, Integer[]>> best = new HashMap<>();
        for (Map.Entry<Spot, Integer[]> e : sight(view(own), own.label).entrySet()) {
            if (e.getKey().table == t && (condition == null
                    || truth(eval(condition, new Pair(e.getKey(), e.getValue(), null, null), t, null)))) {
                Map.Entry<Spot, Integer[]> old = best.get(e.getKey().key);
                if (old == null || old.getKey().label < e.getKey().label) {
                    best.put(e.getKey().key, e);
                }
            }
        }
        return best;
    }

    int set(Session own) {
        Token name = expect("name");
        List<Token> columns = new ArrayList<>();
        List<Node> nodes = new ArrayList<>();
        do {
            columns.add(expect("name"));
            expect("=");
            nodes.add(expression(0));
        } while (accept(","));
        Node condition = condition();
        expect("end");
        Table t = need(name, own.label);
        Set<String> told = new HashSet<>();
        for (Token c : columns) {
            if (!told.add(c.text) || t != null && t.columns.indexOf(c.text) < 1) {
                wrong.add(c.place);
            }
        }
        for (Node n : nodes) {
            columnsIn(n, t, null, t != null);
        }
        columnsIn(condition, t, null, t != null);
        endOfFaults();
        Map<Spot, Integer[]> draft = new HashMap<>(view(own));
        List<Spot> touched = new ArrayList<>();
        for (Map.Entry<Spot, Integer[]> e : meant(own, t, condition).values()) {
            Integer[] cells = e.getValue().clone();
            for (int i = 0; i < columns.size(); i++) {
                cells[t.columns.indexOf(columns.get(i).text)] =
                        eval(nodes.get(i), new Pair(e.getKey(), e.getValue(), null, null), t, null);
            }
            Spot spot = new Spot(t, e.getKey().key, own.label);
            draft.put(spot, cells);
            touched.add(spot);
        }
        finish(own, t, draft, touched, touched);
        return touched.size();
    }

    int cut(Session own) {
        Token name = expect("name");
        Node condition = condition();
        expect("end");
        Table t = need(name, own.label);
        columnsIn(condition, t, null, t != null);
        endOfFaults();
        Map<Spot, Integer[]> draft = new HashMap<>(view(own));
        List<Spot> touched = new ArrayList<>();
        for (Map.Entry<Spot, Integer[]> e : meant(own, t, condition).values()) {
            Spot spot = new Spot(t, e.getKey().key, own.label);
            draft.remove(spot);
            if (chosen(draft, own.label).keySet().stream().anyMatch(s -> s.table == t && s.key == spot.key)) {
                draft.put(spot, VEIL);
            }
            touched.add(spot);
        }
        finish(own, t, draft, List.of(), touched);
        return touched.size();
    }

    int lower(Session own) {
        Token name = expect("name");
        Node key = expression(0);
        expect("to");
        Node to = expression(0);
        expect("end");
        Table t = need(name, own.label);
        noRows(key);
        noRows(to);
        endOfFaults();
        Integer k = eval(key, null, null, null);
        Integer l = eval(to, null, null, null);
        if (k == null) {
            throw new Refused('n');
        }
        if (l == null || l < 0 || l > 63 || l == own.label || !below(l, own.label) || !below(t.label, l)) {
            throw new Refused('l');
        }
        Integer[] row = view(own).get(new Spot(t, k, own.label));
        if (row == null || row == VEIL) {
            throw new Refused('k');
        }
        Map<Spot, Integer[]> draft = new HashMap<>(view(own));
        draft.put(new Spot(t, k, l), row);
        if (entriesOf(draft, t, l) > 12) {
            throw new Refused('f');
        }
        if (own.open) {
            throw new Refused('t');
        }
        keep(own, draft, List.of(new Spot(t, k, l)));
        return 1;
    }

    // ---- the rest of the face

    char reason(int s) {
        if (session(s).reason == 0) {
            throw new NoSuchElementException();
        }
        return session(s).reason;
    }

    Integer place(int s, int row, int column) {
        Session own = session(s);
        if (row < 0 || row >= own.answer.size() || column < 0 || column >= own.width) {
            throw new IndexOutOfBoundsException();
        }
        return own.answer.get(row).get(column);
    }

    int cell(int s, int row, int column) {
        Integer v = place(s, row, column);
        if (v == null) {
            throw new NoSuchElementException();
        }
        return v;
    }

    int seen(int s) {
        Session own = session(s);
        return sight(view(own), own.label).size();
    }

    int begin(int s) {
        Session own = session(s);
        if (own.open) {
            throw new IllegalStateException();
        }
        own.open = true;
        own.view = new HashMap<>(entries);
        own.changed.clear();
        own.since = ended.size();
        return seen(s);
    }

    void close(Session own) {
        own.open = false;
        own.view = null;
        own.changed = new LinkedHashSet<>();
    }

    int end(int s) {
        Session own = session(s);
        if (!own.open) {
            throw new IllegalStateException();
        }
        Set<Spot> changed = own.changed;
        Map<Spot, Integer[]> view = own.view;
        close(own);
        try {
            if (changed.stream().anyMatch(x -> x.table.dropped)) {
                throw new Refused('d');
            }
            if (ended.subList(own.since, ended.size()).stream().anyMatch(changed::contains)) {
                throw new Refused('x');
            }
            Map<Spot, Integer[]> draft = new HashMap<>(entries);
            for (Spot x : changed) {
                if (view.containsKey(x)) {
                    draft.put(x, view.get(x));
                } else {
                    draft.remove(x);
                }
            }
            if (changed.stream().anyMatch(x -> entriesOf(draft, x.table, x.label) > 12)) {
                throw new Refused('f');
            }
            if (changed.stream().anyMatch(x -> twins(draft, x.table, x.label))) {
                throw new Refused('u');
            }
            entries = draft;
            ended.addAll(changed);
            count(own.label, 'c');
            return changed.size();
        } catch (Refused r) {
            own.reason = r.letter;
            count(own.label, 'r');
            throw new UnsupportedOperationException();
        }
    }

    int giveUp(int s) {
        Session own = session(s);
        if (!own.open) {
            throw new IllegalStateException();
        }
        int many = own.changed.size();
        close(own);
        return many;
    }

    int tables(int s) {
        int label = session(s).label;
        return (int) tables.stream().filter(t -> below(t.label, label)).count();
    }

    int audit(int s, int label, char what) {
        Session own = session(s);
        mustBeLabel(label);
        if ("drfc".indexOf(what) < 0) {
            throw new IllegalArgumentException();
        }
        if (!below(label, own.label)) {
            throw new UnsupportedOperationException();
        }
        return counts.getOrDefault(label + " " + what, 0);
    }

    long checksum(int s) {
        Session own = session(s);
        List<Long> parts = new ArrayList<>();
        parts.add((long) own.label);
        List<Table> some = new ArrayList<>(tables);
        some.removeIf(t -> !below(t.label, own.label));
        some.sort(Comparator.comparing((Table t) -> t.name).thenComparing(t -> t.label));
        Map<Spot, Integer[]> seen = sight(view(own), own.label);
        for (Table t : some) {
            for (char c : t.name.toCharArray()) {
                parts.add((long) c);
            }
            parts.add((long) t.label);
            List<Spot> spots = new ArrayList<>(seen.keySet());
            spots.removeIf(x -> x.table != t);
            spots.sort(Comparator.comparing(Spot::key).thenComparing(Spot::label));
            for (Spot x : spots) {
                parts.add((long) x.label);
                for (Integer c : seen.get(x)) {
                    parts.add(c == null ? -1000000000L : c);
                }
            }
        }
        parts.add((long) live(view(own), own.label).size());
        for (char c : own.text.toString().toCharArray()) {
            parts.add((long) c);
        }
        long sum = 7;
        for (long p : parts) {
            sum = 31 * sum + p;
        }
        return sum;
    }

    float veilShare(int s) {
        Session own = session(s);
        Map<Spot, Integer[]> all = live(view(own), own.label);
        if (all.isEmpty()) {
            throw new ArithmeticException();
        }
        return (float) all.values().stream().filter(c -> c == VEIL).count() / (float) all.size();
    }

    double meanLevel(int s) {
        Session own = session(s);
        Map<Spot, Integer[]> seen = sight(view(own), own.label);
        if (seen.isEmpty()) {
            throw new ArithmeticException();
        }
        return (double) seen.keySet().stream().mapToInt(x -> x.label / 16).sum() / (double) seen.size();
    }
}
