import java.util.ArrayList;
import java.util.NoSuchElementException;

/** A house of tables whose rows have labels; ../shared/DOC.md tells what each call promises. */
public final class Levelhouse {
    private static final int SESSIONS = 8;
    private static final int LABELS = 64;
    private static final int TEXT_ROOM = 120;
    private static final int WORD_ROOM = 6;
    private static final int DIGIT_ROOM = 9;
    private static final int COLUMN_ROOM = 5;
    private static final int TABLE_ROOM = 3;
    private static final int ENTRY_ROOM = 12;
    private static final int ANSWER_ROOM = 150;
    private static final int GREATEST = 999999999;
    /** What a cell without a number holds; it is less than all numbers, as the order of answers wants it. */
    private static final int NOTHING = -1000000000;
    private static final int LETTERS = 27;
    private static final int COMPARING = 3;
    private static final int PREFIX = 6;
    private static final Word[] WORDS = Word.values();

    private final Session[] sessions = new Session[SESSIONS];
    /** The tables that there are, by names, of one name by labels. */
    private final ArrayList<Table> standing = new ArrayList<>();
    private final Shelf shelf = new Shelf();
    /** The entries that ended transactions changed, in the order of their ends. */
    private final ArrayList<Entry> ended = new ArrayList<>();
    private final int[] tally = new int[LABELS * 4];
    private final Statement statement = new Statement();
    private final Meaning meaning = new Meaning();
    private final Sight sight = new Sight();
    private final Change change = new Change();
    private final Query query = new Query();
    private int made;
    /** The letter of the refusal of what is done just now, or 0. */
    private char refusal;

    /** Creates a house without tables. */
    public Levelhouse() {
        for (int i = 0; i < sessions.length; i++) {
            sessions[i] = new Session();
        }
    }

    public int type(int session, char sign)
            throws IndexOutOfBoundsException, IllegalArgumentException, IllegalStateException {
        Session own = sessionOf(session);
        if (!isTyped(sign)) {
            throw new IllegalArgumentException();
        }
        if (own.length >= TEXT_ROOM) {
            throw new IllegalStateException();
        }
        own.add(sign);
        return own.length;
    }

    public int typeMore(int session, int many, char a, char b, char c, char d, char e, char f, char g, char h)
            throws IndexOutOfBoundsException, IllegalArgumentException, IllegalStateException {
        Session own = sessionOf(session);
        if (many < 1 || many > 8) {
            throw new IllegalArgumentException();
        }
        char[] signs = {a, b, c, d, e, f, g, h};
        for (int i = 0; i < many && i < signs.length; i++) {
            if (!isTyped(signs[i])) {
                throw new IllegalArgumentException();
            }
        }
        if (own.length + many > TEXT_ROOM) {
            throw new IllegalStateException();
        }
        for (int i = 0; i < many && i < signs.length; i++) {
            own.add(signs[i]);
        }
        return own.length;
    }

    public int erase(int session) throws IndexOutOfBoundsException {
        Session own = sessionOf(session);
        int had = own.length;
        own.length = 0;
        return had;
    }

    public int enter(int session, int label) throws IndexOutOfBoundsException, IllegalArgumentException {
        Session own = sessionOf(session);
        if (!isLabel(label)) {
            throw new IllegalArgumentException();
        }
        int before = own.label;
        own.enterLabel(label);
        return before;
    }

    public int label(int session) throws IndexOutOfBoundsException {
        return sessionOf(session).label;
    }

    public int run(int session) throws IndexOutOfBoundsException, UnsupportedOperationException {
        Session own = sessionOf(session);
        refusal = 0;
        statement.read(own.text, own.length);
        own.length = 0;
        int fault = statement.reader.fault;
        if (fault < 0) {
            fault = meaning.bind(statement, standing, own.label);
        }
        if (fault >= 0) {
            count(own, 'f');
            return -1 - fault;
        }
        int told;
        switch (statement.verb) {
            case GET:
                told = ask(own);
                break;
            case TABLE:
                told = makeTable(own);
                break;
            case DROP:
                told = dropTable(own);
                break;
            case LOWER:
                told = lower(own);
                break;
            default:
                told = alter(own);
        }
        count(own, refusal == 0 ? 'd' : 'r');
        if (refusal != 0) {
            throw new UnsupportedOperationException();
        }
        return told;
    }

    public char reason(int session) throws IndexOutOfBoundsException, NoSuchElementException {
        Session own = sessionOf(session);
        if (own.reason == 0) {
            throw new NoSuchElementException();
        }
        return own.reason;
    }

    public int rows(int session) throws IndexOutOfBoundsException {
        return sessionOf(session).answerRows;
    }

    public int columns(int session) throws IndexOutOfBoundsException {
        return sessionOf(session).answerColumns;
    }

    public boolean isKnown(int session, int row, int column) throws IndexOutOfBoundsException {
        Session own = sessionOf(session);
        if (!own.hasPlace(row, column)) {
            throw new IndexOutOfBoundsException();
        }
        return own.answerAt(row, column) != NOTHING;
    }

    public int cell(int session, int row, int column) throws IndexOutOfBoundsException, NoSuchElementException {
        Session own = sessionOf(session);
        if (!own.hasPlace(row, column)) {
            throw new IndexOutOfBoundsException();
        }
        int number = own.answerAt(row, column);
        if (number == NOTHING) {
            throw new NoSuchElementException();
        }
        return number;
    }

    public int begin(int session) throws IndexOutOfBoundsException, IllegalStateException {
        Session own = sessionOf(session);
        if (own.isBusy) {
            throw new IllegalStateException();
        }
        own.startBusy(shelf, ended.size());
        return lookFor(own);
    }

    public int end(int session)
            throws IndexOutOfBoundsException, IllegalStateException, UnsupportedOperationException {
        Session own = sessionOf(session);
        if (!own.isBusy) {
            throw new IllegalStateException();
        }
        int many = own.changed.size();
        refusal = change.merge(own, shelf, ended);
        if (refusal == 0) {
            shelf.fill(change.draft);
            addAll(ended, own.changed);
        }
        own.stopBusy();
        count(own, refusal == 0 ? 'c' : 'r');
        if (refusal != 0) {
            throw new UnsupportedOperationException();
        }
        return many;
    }

    public int giveUp(int session) throws IndexOutOfBoundsException, IllegalStateException {
        Session own = sessionOf(session);
        if (!own.isBusy) {
            throw new IllegalStateException();
        }
        int many = own.changed.size();
        own.stopBusy();
        return many;
    }

    public boolean isOpen(int session) throws IndexOutOfBoundsException {
        return sessionOf(session).isBusy;
    }

    public int tables(int session) throws IndexOutOfBoundsException {
        Session own = sessionOf(session);
        int many = 0;
        for (int i = 0; i < standing.size(); i++) {
            if (isBelow(standing.get(i).label, own.label)) {
                many++;
            }
        }
        return many;
    }

    public int seen(int session) throws IndexOutOfBoundsException {
        return lookFor(sessionOf(session));
    }

    public int audit(int session, int label, char what)
            throws IndexOutOfBoundsException, IllegalArgumentException, UnsupportedOperationException {
        Session own = sessionOf(session);
        int place = tallyPlace(label, what);
        if (place < 0 || place >= tally.length) {
            throw new IllegalArgumentException();
        }
        if (!isBelow(label, own.label)) {
            throw new UnsupportedOperationException();
        }
        return tally[place];
    }

    public boolean isAbove(int one, int other) throws IllegalArgumentException {
        if (!isLabel(one) || !isLabel(other)) {
            throw new IllegalArgumentException();
        }
        return isBelow(other, one);
    }

    public int joined(int one, int other) throws IllegalArgumentException {
        if (!isLabel(one) || !isLabel(other)) {
            throw new IllegalArgumentException();
        }
        return join(one, other);
    }

    public long checksum(int session) throws IndexOutOfBoundsException {
        Session own = sessionOf(session);
        lookFor(own);
        long sum = 7 * 31 + own.label;
        for (int i = 0; i < standing.size(); i++) {
            Table table = standing.get(i);
            if (isBelow(table.label, own.label)) {
                sum = sight.sumOf(table, nameSum(sum, table.name) * 31 + table.label);
            }
        }
        sum = sum * 31 + viewOf(own).countBelow(own.label, false);
        for (int i = 0; i < own.length; i++) {
            sum = sum * 31 + own.signAt(i);
        }
        return sum;
    }

    public boolean isSound() {
        for (int i = 0; i < sessions.length; i++) {
            Session own = sessions[i];
            lookFor(own);
            if (!viewOf(own).isNeat() || !sight.isMetWhole()) {
                return false;
            }
        }
        return true;
    }

    public float veilShare(int session) throws IndexOutOfBoundsException, ArithmeticException {
        Session own = sessionOf(session);
        int all = viewOf(own).countBelow(own.label, false);
        if (all == 0) {
            throw new ArithmeticException();
        }
        return (float) viewOf(own).countBelow(own.label, true) / (float) all;
    }

    public double meanLevel(int session) throws IndexOutOfBoundsException, ArithmeticException {
        int many = lookFor(sessionOf(session));
        if (many == 0) {
            throw new ArithmeticException();
        }
        return (double) sight.levelSum() / (double) many;
    }

    private Session sessionOf(int session) {
        if (session < 0 || session >= sessions.length) {
            throw new IndexOutOfBoundsException();
        }
        return sessions[session];
    }

    private static boolean isTyped(char sign) {
        return sign >= 32 && sign <= 126;
    }

    private static boolean isLabel(int label) {
        return label >= 0 && label < LABELS;
    }

    /** Whether a label is at or below another one. */
    private static boolean isBelow(int low, int high) {
        return low >> 4 <= high >> 4 && (low & 15 & ~high) == 0;
    }

    private static int join(int one, int other) {
        return Math.max(one >> 4, other >> 4) << 4 | (one | other) & 15;
    }

    private static void addAll(ArrayList<Entry> list, ArrayList<Entry> more) {
        for (int i = 0; i < more.size(); i++) {
            list.add(more.get(i));
        }
    }

    private static int tallyPlace(int label, char what) {
        int letter = what == 'd' ? 0 : what == 'r' ? 1 : what == 'f' ? 2 : what == 'c' ? 3 : -1;
        return isLabel(label) && letter >= 0 ? label * 4 + letter : -1;
    }

    /** Counts what a session did; the letter of a refusal, if there is one, is kept as its reason. */
    private void count(Session own, char what) {
        int place = tallyPlace(own.label, what);
        if (place >= 0 && place < tally.length) {
            tally[place]++;
        }
        if (refusal != 0) {
            own.reason = refusal;
        }
    }

    /** The entries as a session has them. */
    private Shelf viewOf(Session own) {
        return own.isBusy ? own.shelf : shelf;
    }

    /** Looks at the rows that a session sees, and tells how many they are. */
    private int lookFor(Session own) {
        sight.look(viewOf(own), own.label);
        return sight.size();
    }

    private static long nameSum(long sum, int name) {
        int scale = LETTERS * LETTERS * LETTERS * LETTERS * LETTERS;
        for (int i = 0; i < WORD_ROOM && scale > 0; i++) {
            int letter = name / scale % LETTERS;
            if (letter > 0) {
                sum = sum * 31 + 'a' - 1 + letter;
            }
            scale /= LETTERS;
        }
        return sum;
    }

    private int ask(Session own) {
        lookFor(own);
        if (!query.answer(statement, meaning, viewOf(own), sight)) {
            refusal = 'm';
            return 0;
        }
        own.keepAnswer(query.lines, query.lineCount, query.width);
        return own.answerRows;
    }

    private int makeTable(Session own) {
        int name = statement.reader.value(statement.tableAt);
        int of = 0;
        boolean isThere = false;
        int place = 0;
        for (int i = 0; i < standing.size(); i++) {
            Table table = standing.get(i);
            if (table.label == own.label) {
                of++;
                isThere = isThere || table.name == name;
            }
            if (table.name < name || table.name == name && table.label < own.label) {
                place = i + 1;
            }
        }
        if (isThere || of >= TABLE_ROOM || own.isBusy) {
            refusal = 't';
            return 0;
        }
        made++;
        standing.add(place, meaning.newTable(made));
        return of + 1;
    }

    private int dropTable(Session own) {
        Table table = meaning.one;
        if (table == null || table.label != own.label || own.isBusy) {
            refusal = 't';
            return 0;
        }
        table.isDropped = true;
        for (int i = standing.size() - 1; i >= 0; i--) {
            if (standing.get(i).serial == table.serial) {
                standing.remove(i);
            }
        }
        shelf.drop(table);
        for (int i = 0; i < sessions.length; i++) {
            sessions[i].shelf.drop(table);
        }
        return 1;
    }

    private int lower(Session own) {
        change.start(viewOf(own), own.label);
        refusal = change.lower(statement, meaning);
        if (refusal == 0 && own.isBusy) {
            refusal = 't';
        }
        if (refusal == 0) {
            keepChange(own);
        }
        return 1;
    }

    private int alter(Session own) {
        change.start(viewOf(own), own.label);
        if (statement.verb == Word.PUT) {
            refusal = change.put(statement, meaning);
        } else {
            lookFor(own);
            change.alterSeen(statement, meaning, sight);
        }
        if (refusal == 0) {
            refusal = change.judge(meaning.one);
        }
        if (refusal == 0) {
            keepChange(own);
        }
        return change.altered;
    }

    /** A statement outside of a transaction is one by itself, and so has ended. */
    private void keepChange(Session own) {
        viewOf(own).fill(change.draft);
        if (own.isBusy) {
            own.addChanged(change.touched);
        } else {
            addAll(ended, change.touched);
        }
        if (change.isGiven && meaning.one != null) {
            meaning.one.giveKey(own.label);
        }
    }

    /** What a token is. The number is how fast it binds, from 1, the loosest, to 6, ahead of one. */
    private enum Word {
        END("", 0), BAD("", 0), NUMBER("", 0), NAME("", 0), NEGATE("", 6),
        GET("get", 0), EACH("each", 0), ALL("all", 0), FROM("from", 0), JOIN("join", 0), ON("on", 0),
        IF("if", 0), BY("by", 0), UP("up", 0), DOWN("down", 0), TOP("top", 0), PUT("put", 0),
        NEXT("next", 0), SET("set", 0), CUT("cut", 0), TABLE("table", 0), DROP("drop", 0), KEY("key", 0),
        AUTO("auto", 0), NUM("num", 0), UNIQ("uniq", 0), REF("ref", 0), LOWER("lower", 0), TO("to", 0),
        LABEL("label", 0), COUNT("count", 0), SUM("sum", 0), LEAST("least", 0), MOST("most", 0),
        NONE("none", 0), KNOWN("known", 6),
        OPEN("(", 0), CLOSE(")", 0), COMMA(",", 0), EQUAL("=", 3), UNLIKE("#", 3), LESS("<", 3),
        GREATER(">", 3), PLUS("+", 4), MINUS("-", 4), TIMES("*", 5), OVER("/", 5), REST("%", 5),
        BOTH("&", 2), EITHER("|", 1), NOT("!", 6);

        final String text;
        final int bond;

        Word(String text, int bond) {
            this.text = text;
            this.bond = bond;
        }

        boolean isSpelt(char[] signs, int from, int to) {
            if (text.length() != to - from || from < 0 || to > signs.length) {
                return false;
            }
            for (int i = 0; i < text.length() && from + i < signs.length; i++) {
                if (text.charAt(i) != signs[from + i]) {
                    return false;
                }
            }
            return to > from;
        }
    }

    /** A session: its label, text, answer, and what its open transaction sees and changed. */
    private static final class Session {
        int label;
        final char[] text = new char[TEXT_ROOM];
        int length;
        int[] answer = new int[0];
        int answerRows;
        int answerColumns;
        char reason;
        boolean isBusy;
        final Shelf shelf = new Shelf();
        final ArrayList<Entry> changed = new ArrayList<>();
        /** How many changes had ended as the transaction began. */
        int since;

        void add(char sign) {
            if (length >= 0 && length < text.length) {
                text[length] = sign;
                length++;
            }
        }

        int signAt(int place) {
            return place >= 0 && place < text.length ? text[place] : 0;
        }

        void enterLabel(int other) {
            label = other;
            length = 0;
            answerRows = 0;
            answerColumns = 0;
            reason = 0;
            stopBusy();
        }

        boolean hasPlace(int row, int column) {
            return row >= 0 && row < answerRows && column >= 0 && column < answerColumns;
        }

        int answerAt(int row, int column) {
            int place = row * answerColumns + column;
            return place >= 0 && place < answer.length ? answer[place] : NOTHING;
        }

        void keepAnswer(int[] lines, int many, int width) {
            int size = Math.min(Math.max(many * width, 0), lines.length);
            if (answer.length < size) {
                answer = new int[Math.min(size * 2, lines.length)];
            }
            System.arraycopy(lines, 0, answer, 0, size);
            answerRows = many;
            answerColumns = width;
        }

        void startBusy(Shelf all, int endedThen) {
            isBusy = true;
            since = endedThen;
            shelf.fill(all);
        }

        void stopBusy() {
            isBusy = false;
            shelf.empty();
            changed.clear();
        }

        void addChanged(ArrayList<Entry> touched) {
            for (int i = 0; i < touched.size(); i++) {
                Entry entry = touched.get(i);
                if (!hasChanged(entry)) {
                    changed.add(entry);
                }
            }
        }

        private boolean hasChanged(Entry entry) {
            for (int i = 0; i < changed.size(); i++) {
                if (changed.get(i).isBeside(entry)) {
                    return true;
                }
            }
            return false;
        }
    }

    /** A table; the check has its columns as places already. */
    private static final class Table {
        /** Tables that came to be later have greater ones; references lead to lesser ones alone. */
        final int serial;
        final int name;
        final int label;
        final int[] columns;
        final Word[] kinds;
        final Table[] refs;
        final Formula check;
        final int[] given = new int[LABELS];
        boolean isDropped;

        Table(int serial, int name, int label, int width, Formula check) {
            int room = width > 0 ? width : 1;
            this.serial = serial;
            this.name = name;
            this.label = label;
            this.columns = new int[room];
            this.kinds = new Word[room];
            this.refs = new Table[room];
            this.check = check;
        }

        void setColumn(int column, int columnName, Word kind, Table ref) {
            if (column >= 0 && column < columns.length && column < kinds.length && column < refs.length) {
                columns[column] = columnName;
                kinds[column] = kind;
                refs[column] = ref;
            }
        }

        int width() {
            return columns.length;
        }

        int columnOf(int columnName) {
            for (int i = 0; i < columns.length; i++) {
                if (columns[i] == columnName) {
                    return i;
                }
            }
            return -1;
        }

        Word kindOf(int column) {
            return column >= 0 && column < kinds.length ? kinds[column] : Word.NUM;
        }

        Table refOf(int column) {
            return column >= 0 && column < refs.length ? refs[column] : null;
        }

        int nextKey(int at) {
            return at >= 0 && at < given.length ? LABELS * (given[at] + 1) + at : NOTHING;
        }

        void giveKey(int at) {
            if (at >= 0 && at < given.length) {
                given[at]++;
            }
        }
    }

    /** An entry; it never changes, so that shelves can share it. */
    private static final class Entry {
        final Table table;
        final int key;
        final int label;
        final boolean isVeil;
        /** The numbers of a row, the first one being the key; a veil has none. */
        private final int[] cells;

        Entry(Table table, int key, int label, boolean isVeil, int[] cells) {
            this.table = table;
            this.key = key;
            this.label = label;
            this.isVeil = isVeil;
            this.cells = cells;
        }

        int width() {
            return cells.length;
        }

        int hold(int column) {
            return column >= 0 && column < cells.length ? cells[column] : NOTHING;
        }

        boolean isOf(Table other) {
            return other != null && table.serial == other.serial;
        }

        /** Whether it is at the same table, key and label as another one. */
        boolean isBeside(Entry other) {
            return compare(other.table.serial, other.key, other.label) == 0;
        }

        int compare(int serial, int otherKey, int otherLabel) {
            if (table.serial != serial) {
                return table.serial < serial ? -1 : 1;
            }
            if (key != otherKey) {
                return key < otherKey ? -1 : 1;
            }
            return label == otherLabel ? 0 : label < otherLabel ? -1 : 1;
        }
    }

    /** Entries in the order of their tables, keys and labels. */
    private static final class Shelf {
        private final ArrayList<Entry> list = new ArrayList<>();

        int size() {
            return list.size();
        }

        /** The entry at an index, or null. */
        Entry get(int index) {
            return index >= 0 && index < list.size() ? list.get(index) : null;
        }

        void empty() {
            list.clear();
        }

        void fill(Shelf other) {
            list.clear();
            addAll(list, other.list);
        }

        /** The index of the first entry that is not ahead of a place. */
        static int placeIn(ArrayList<Entry> entries, int serial, int key, int label) {
            int low = 0;
            int high = entries.size();
            while (low < high) {
                int middle = low + (high - low) / 2;
                if (entries.get(middle).compare(serial, key, label) < 0) {
                    low = middle + 1;
                } else {
                    high = middle;
                }
            }
            return low;
        }

        /** The entry at a place, or null. */
        Entry find(Table table, int key, int label) {
            Entry entry = get(placeIn(list, table.serial, key, label));
            return entry != null && entry.compare(table.serial, key, label) == 0 ? entry : null;
        }

        /** Puts an entry at its place, over what is there. */
        void store(Entry entry) {
            int place = placeIn(list, entry.table.serial, entry.key, entry.label);
            Entry there = get(place);
            if (there != null && there.isBeside(entry)) {
                list.set(place, entry);
            } else {
                list.add(place, entry);
            }
        }

        void take(Table table, int key, int label) {
            int place = placeIn(list, table.serial, key, label);
            Entry there = get(place);
            if (there != null && there.compare(table.serial, key, label) == 0) {
                list.remove(place);
            }
        }

        void drop(Table table) {
            int kept = 0;
            for (int i = 0; i < list.size(); i++) {
                Entry entry = list.get(i);
                if (!entry.isOf(table)) {
                    list.set(kept, entry);
                    kept++;
                }
            }
            for (int i = list.size() - 1; i >= kept; i--) {
                list.remove(i);
            }
        }

        /** The index behind the entries that have table and key of the one at an index. */
        int endOfKey(int from) {
            Entry first = get(from);
            if (first == null) {
                return from + 1;
            }
            int to = from + 1;
            while (to < list.size() && list.get(to).key == first.key && list.get(to).isOf(first.table)) {
                to++;
            }
            return to;
        }

        /** Whether a row is chosen by a label among the entries of its key, from one index to another. */
        boolean isChosen(Entry row, int from, int to, int label) {
            if (row.isVeil || !isBelow(row.label, label)) {
                return false;
            }
            for (int i = Math.max(from, 0); i < to && i < list.size(); i++) {
                int other = list.get(i).label;
                if (other != row.label && isBelow(row.label, other) && isBelow(other, label)) {
                    return false;
                }
            }
            return true;
        }

        boolean hasChosen(Table table, int key, int label) {
            int from = placeIn(list, table.serial, key, 0);
            Entry first = get(from);
            if (first == null || first.key != key || !first.isOf(table)) {
                return false;
            }
            int to = endOfKey(from);
            for (int i = from; i < to && i < list.size(); i++) {
                if (isChosen(list.get(i), from, to, label)) {
                    return true;
                }
            }
            return false;
        }

        int count(Table table, int label) {
            int many = 0;
            for (int i = 0; i < list.size(); i++) {
                if (list.get(i).label == label && list.get(i).isOf(table)) {
                    many++;
                }
            }
            return many;
        }

        int countBelow(int label, boolean veilsAlone) {
            int many = 0;
            for (int i = 0; i < list.size(); i++) {
                Entry entry = list.get(i);
                if (isBelow(entry.label, label) && (entry.isVeil || !veilsAlone)) {
                    many++;
                }
            }
            return many;
        }

        /** Whether two rows of a table at a label hold the same number in a column uniq. */
        boolean hasTwins(Table table, int label) {
            int from = placeIn(list, table.serial, NOTHING, 0);
            for (int i = from; i < list.size() && list.get(i).isOf(table); i++) {
                if (list.get(i).label == label && hasTwin(list.get(i), from, i)) {
                    return true;
                }
            }
            return false;
        }

        private boolean hasTwin(Entry entry, int from, int to) {
            for (int i = Math.max(from, 0); i < to && i < list.size(); i++) {
                if (list.get(i).label == entry.label && areTwins(list.get(i), entry)) {
                    return true;
                }
            }
            return false;
        }

        private static boolean areTwins(Entry one, Entry other) {
            for (int i = 1; i < one.table.width(); i++) {
                if (one.table.kindOf(i) == Word.UNIQ && one.hold(i) != NOTHING && one.hold(i) == other.hold(i)) {
                    return true;
                }
            }
            return false;
        }

        /** Whether no place is taken twice, and no table has too many entries at a label. */
        boolean isNeat() {
            for (int i = 0; i < list.size(); i++) {
                Entry entry = list.get(i);
                if (i > 0 && list.get(i - 1).isBeside(entry) || count(entry.table, entry.label) > ENTRY_ROOM) {
                    return false;
                }
            }
            return true;
        }
    }

    /** The rows that are seen by a label, in the order of their tables, keys and labels. */
    private static final class Sight {
        private final ArrayList<Entry> list = new ArrayList<>();
        private int label;

        /** References lead to earlier tables alone, so that one way through the shelf finds all that is met. */
        void look(Shelf shelf, int by) {
            list.clear();
            label = by;
            int from = 0;
            while (from < shelf.size()) {
                int to = shelf.endOfKey(from);
                for (int i = from; i < to; i++) {
                    Entry entry = shelf.get(i);
                    if (entry != null && shelf.isChosen(entry, from, to, by) && isMet(entry)) {
                        list.add(entry);
                    }
                }
                from = Math.max(to, from + 1);
            }
        }

        int size() {
            return list.size();
        }

        /** The row at an index, or null. */
        Entry get(int index) {
            return index >= 0 && index < list.size() ? list.get(index) : null;
        }

        boolean isMet(Entry row) {
            for (int i = 1; i < row.table.width(); i++) {
                Table ref = row.table.refOf(i);
                int key = row.hold(i);
                if (ref == null || key == NOTHING) {
                    continue;
                }
                Entry there = get(Shelf.placeIn(list, ref.serial, key, 0));
                if (there == null || there.key != key || !there.isOf(ref)) {
                    return false;
                }
            }
            return true;
        }

        boolean isMetWhole() {
            for (int i = 0; i < list.size(); i++) {
                if (!isMet(list.get(i))) {
                    return false;
                }
            }
            return true;
        }

        int levelSum() {
            int sum = 0;
            for (int i = 0; i < list.size(); i++) {
                sum += list.get(i).label >> 4;
            }
            return sum;
        }

        /** A sum with the rows of a table behind it. */
        long sumOf(Table table, long start) {
            long sum = start;
            for (int i = 0; i < list.size(); i++) {
                Entry row = list.get(i);
                if (row.isOf(table)) {
                    sum = sum * 31 + row.label;
                    for (int k = 0; k < row.width(); k++) {
                        sum = sum * 31 + row.hold(k);
                    }
                }
            }
            return sum;
        }
    }

    /** A text as tokens, read from the first one on. */
    private static final class Reader {
        private final Word[] kinds = new Word[TEXT_ROOM];
        private final int[] values = new int[TEXT_ROOM];
        private final int[] places = new int[TEXT_ROOM];
        private int size;
        private int length;
        /** The index of the token that comes next. */
        int at;
        /** The place of the first token that cannot stand there, or -1. */
        int fault;

        void read(char[] text, int textLength) {
            size = 0;
            at = 0;
            fault = -1;
            length = Math.min(Math.max(textLength, 0), text.length);
            int place = 0;
            while (place < length && place < text.length) {
                if (text[place] == ' ') {
                    place++;
                } else {
                    place = Math.max(readToken(text, place), place + 1);
                }
            }
        }

        private int readToken(char[] text, int from) {
            int to = endOfRun(text, from, 'a', 'z');
            if (to > from) {
                addWord(text, from, to);
                return to;
            }
            to = endOfRun(text, from, '0', '9');
            if (to > from) {
                addNumber(text, from, to);
                return to;
            }
            add(wordAt(text, from, from + 1, Word.BAD), 0, from);
            return from + 1;
        }

        private int endOfRun(char[] text, int from, char first, char last) {
            int to = Math.max(from, 0);
            while (to < length && to < text.length && text[to] >= first && text[to] <= last) {
                to++;
            }
            return to;
        }

        private void addWord(char[] text, int from, int to) {
            int name = 0;
            for (int i = from; i < from + WORD_ROOM; i++) {
                name = name * LETTERS + (i >= 0 && i < to && i < text.length ? text[i] - 'a' + 1 : 0);
            }
            add(to - from > WORD_ROOM ? Word.BAD : wordAt(text, from, to, Word.NAME), name, from);
        }

        private void addNumber(char[] text, int from, int to) {
            int number = 0;
            for (int i = from; i < to && i < from + DIGIT_ROOM && i >= 0 && i < text.length; i++) {
                number = number * 10 + text[i] - '0';
            }
            add(to - from > DIGIT_ROOM ? Word.BAD : Word.NUMBER, number, from);
        }

        private static Word wordAt(char[] text, int from, int to, Word otherwise) {
            for (int i = 0; i < WORDS.length; i++) {
                if (WORDS[i].isSpelt(text, from, to)) {
                    return WORDS[i];
                }
            }
            return otherwise;
        }

        private void add(Word kind, int value, int place) {
            if (size >= 0 && size < kinds.length && size < values.length && size < places.length) {
                kinds[size] = kind;
                values[size] = value;
                places[size] = place;
                size++;
            }
        }

        Word kind(int token) {
            return token >= 0 && token < size && token < kinds.length ? kinds[token] : Word.END;
        }

        int value(int token) {
            return token >= 0 && token < size && token < values.length ? values[token] : 0;
        }

        int place(int token) {
            return token >= 0 && token < size && token < places.length ? places[token] : length;
        }

        Word word() {
            return kind(at);
        }

        void fail() {
            if (fault < 0) {
                fault = place(at);
            }
        }

        /** Goes on over a token of a kind, if it comes next. */
        boolean take(Word kind) {
            if (fault >= 0 || kind(at) != kind) {
                return false;
            }
            at++;
            return true;
        }

        /** Goes on over a token of a kind, and tells its index; it is a fault if another one comes. */
        int need(Word kind) {
            if (!take(kind)) {
                fail();
            }
            return at - 1;
        }
    }

    /** Expressions, each a part of the code, an operator standing behind what it is put to. */
    private static final class Formula {
        private final Word[] ops;
        private final int[] args;
        private final int[] places;
        private final int[] stack;
        private final Word[] waiting;
        private int waitingSize;
        int size;

        Formula(int room) {
            int length = room > 0 ? room : 1;
            ops = new Word[length];
            args = new int[length];
            places = new int[length];
            stack = new int[length];
            waiting = new Word[length];
        }

        Word op(int index) {
            return index >= 0 && index < size && index < ops.length ? ops[index] : Word.END;
        }

        int arg(int index) {
            return index >= 0 && index < size && index < args.length ? args[index] : 0;
        }

        int place(int index) {
            return index >= 0 && index < size && index < places.length ? places[index] : 0;
        }

        void setArg(int index, int arg) {
            if (index >= 0 && index < size && index < args.length) {
                args[index] = arg;
            }
        }

        void add(Word op, int arg, int place) {
            if (size >= 0 && size < ops.length && size < args.length && size < places.length) {
                ops[size] = op;
                args[size] = arg;
                places[size] = place;
                size++;
            }
        }

        /** Reads an expression; operators wait in a row, so that no depth of brackets makes calls stand open. */
        void read(Reader reader) {
            waitingSize = 0;
            int depth = 0;
            boolean isOperandDue = true;
            for (int i = 0; i <= TEXT_ROOM && reader.fault < 0; i++) {
                Word word = reader.word();
                if (isOperandDue) {
                    if (word == Word.OPEN) {
                        depth++;
                    }
                    isOperandDue = !readOperand(reader, word);
                } else if (word.bond > 0 && word.bond < PREFIX) {
                    readOperator(reader, word);
                    isOperandDue = true;
                } else if (depth > 0) {
                    depth--;
                    settle(1);
                    waitingSize--;
                    reader.need(Word.CLOSE);
                } else {
                    settle(1);
                    return;
                }
            }
        }

        /** Tells whether an operand stands there whole; otherwise something was read that comes ahead of it. */
        private boolean readOperand(Reader reader, Word word) {
            switch (word) {
                case NUMBER:
                case NONE:
                case LABEL:
                case NAME:
                    add(word, reader.value(reader.at), reader.place(reader.at));
                    reader.take(word);
                    return true;
                case MINUS:
                    await(Word.NEGATE);
                    reader.take(word);
                    return false;
                case NOT:
                case KNOWN:
                case OPEN:
                    await(word);
                    reader.take(word);
                    return false;
                default:
                    reader.fail();
                    return false;
            }
        }

        private void readOperator(Reader reader, Word word) {
            if (word.bond == COMPARING) {
                settle(COMPARING + 1);
                if (waitingBond() == COMPARING) {
                    reader.fail();
                    return;
                }
            }
            settle(word.bond);
            await(word);
            reader.take(word);
        }

        private void await(Word word) {
            if (waitingSize >= 0 && waitingSize < waiting.length) {
                waiting[waitingSize] = word;
                waitingSize++;
            }
        }

        private int waitingBond() {
            return waitingSize > 0 && waitingSize <= waiting.length ? waiting[waitingSize - 1].bond : 0;
        }

        /** Adds the operators that wait and bind as fast as this or faster, back to an open bracket. */
        private void settle(int bond) {
            for (int i = waitingSize; i > 0 && i <= waiting.length && waitingBond() >= bond; i--) {
                add(waiting[i - 1], 0, 0);
                waitingSize--;
            }
        }

        /** What a part of the code is on a row, on two of them, or without one. */
        int result(int from, int to, Entry one, Entry two) {
            int depth = 0;
            for (int i = Math.max(from, 0); i < to && i < size && i < ops.length; i++) {
                Word word = ops[i];
                int taken = word.bond == 0 ? 0 : word.bond == PREFIX ? 1 : 2;
                if (depth < taken || depth - taken >= stack.length) {
                    return NOTHING;
                }
                depth -= taken;
                if (word == Word.NUMBER) {
                    stack[depth] = arg(i);
                } else if (word == Word.LABEL && one != null) {
                    stack[depth] = two == null ? one.label : join(one.label, two.label);
                } else if (taken == 0) {
                    stack[depth] = word == Word.NAME ? cellOf(one, two, arg(i)) : NOTHING;
                } else if (taken == 1) {
                    stack[depth] = changed(word, stack[depth]);
                } else if (depth + 1 < stack.length) {
                    stack[depth] = combined(word, stack[depth], stack[depth + 1]);
                }
                depth++;
            }
            return depth > 0 ? stack[0] : NOTHING;
        }

        private static int changed(Word word, int number) {
            switch (word) {
                case NEGATE:
                    return number == NOTHING ? NOTHING : -number;
                case KNOWN:
                    return number == NOTHING ? 0 : 1;
                default:
                    return number == NOTHING || number == 0 ? 1 : 0;
            }
        }

        private static int combined(Word word, int left, int right) {
            boolean isLeft = left != NOTHING && left != 0;
            boolean isRight = right != NOTHING && right != 0;
            if (word == Word.EITHER || word == Word.BOTH) {
                return isLeft && isRight || word == Word.EITHER && (isLeft || isRight) ? 1 : 0;
            }
            if (left == NOTHING || right == NOTHING) {
                return word.bond == COMPARING ? 0 : NOTHING;
            }
            long number;
            switch (word) {
                case EQUAL:
                    number = left == right ? 1 : 0;
                    break;
                case UNLIKE:
                    number = left != right ? 1 : 0;
                    break;
                case LESS:
                    number = left < right ? 1 : 0;
                    break;
                case GREATER:
                    number = left > right ? 1 : 0;
                    break;
                case PLUS:
                    number = (long) left + right;
                    break;
                case MINUS:
                    number = (long) left - right;
                    break;
                case TIMES:
                    number = (long) left * right;
                    break;
                case OVER:
                    number = right == 0 ? NOTHING : Math.floorDiv(left, right);
                    break;
                default:
                    number = right == 0 ? NOTHING : Math.floorMod(left, right);
            }
            return number < -GREATEST || number > GREATEST ? NOTHING : (int) number;
        }
    }

    /** The cell of a row, or, behind its own columns, of a second one. */
    private static int cellOf(Entry one, Entry two, int column) {
        if (one == null || column < 0) {
            return NOTHING;
        }
        if (column < one.cells.length) {
            return one.cells[column];
        }
        int behind = column - one.cells.length;
        return two != null && behind < two.cells.length ? two.cells[behind] : NOTHING;
    }

    /** A statement as it was read; what ends in At is the index of a token, or -1. */
    private static final class Statement {
        final Reader reader = new Reader();
        final Formula code = new Formula(TEXT_ROOM);
        Word verb = Word.END;
        boolean isEach;
        int allAt;
        int tableAt;
        int joinAt;
        int firstAt;
        int secondAt;
        int orderAt;
        int topAt;
        int closeAt;
        int ifFrom;
        int ifTo;
        int items;
        int columns;
        private final Word[] itemKinds = new Word[TEXT_ROOM];
        private final int[] itemAts = new int[TEXT_ROOM];
        private final int[] itemFroms = new int[TEXT_ROOM];
        private final int[] columnAts = new int[TEXT_ROOM];

        void read(char[] text, int length) {
            clear();
            reader.read(text, length);
            verb = reader.word();
            reader.take(verb);
            switch (verb) {
                case GET:
                    readGet();
                    break;
                case TABLE:
                    readTable();
                    break;
                case PUT:
                    readPut();
                    break;
                case SET:
                    readSet();
                    break;
                case CUT:
                    tableAt = reader.need(Word.NAME);
                    readIf();
                    break;
                case DROP:
                    tableAt = reader.need(Word.NAME);
                    break;
                case LOWER:
                    tableAt = reader.need(Word.NAME);
                    readItem();
                    reader.need(Word.TO);
                    readItem();
                    break;
                default:
                    reader.at = 0;
                    reader.fail();
            }
            if (reader.word() != Word.END) {
                reader.fail();
            }
        }

        private void clear() {
            code.size = 0;
            isEach = false;
            allAt = -1;
            tableAt = -1;
            joinAt = -1;
            firstAt = -1;
            secondAt = -1;
            orderAt = -1;
            topAt = -1;
            closeAt = -1;
            ifFrom = 0;
            ifTo = 0;
            items = 0;
            columns = 0;
        }

        private void readGet() {
            isEach = reader.take(Word.EACH);
            if (reader.take(Word.ALL)) {
                allAt = reader.at - 1;
            } else {
                for (int i = 0; i < TEXT_ROOM && isDue(i); i++) {
                    readItem();
                }
            }
            reader.need(Word.FROM);
            tableAt = reader.need(Word.NAME);
            if (reader.take(Word.JOIN)) {
                joinAt = reader.need(Word.NAME);
                reader.need(Word.ON);
                firstAt = reader.need(Word.NAME);
                reader.need(Word.EQUAL);
                secondAt = reader.need(Word.NAME);
            }
            readIf();
            if (reader.take(Word.BY)) {
                for (int i = 0; i < TEXT_ROOM && isDue(i); i++) {
                    addColumn(reader.need(Word.NAME));
                }
            }
            if (reader.take(Word.UP) || reader.take(Word.DOWN)) {
                orderAt = reader.need(Word.NUMBER);
            }
            if (reader.take(Word.TOP)) {
                topAt = reader.need(Word.NUMBER);
            }
        }

        private void readTable() {
            tableAt = reader.need(Word.NAME);
            reader.need(Word.OPEN);
            for (int i = 0; i < TEXT_ROOM && isDue(i); i++) {
                addColumn(reader.need(Word.NAME));
                if (reader.take(Word.REF)) {
                    reader.need(Word.NAME);
                } else if (!reader.take(Word.KEY) && !reader.take(Word.AUTO) && !reader.take(Word.NUM)) {
                    reader.need(Word.UNIQ);
                }
            }
            reader.need(Word.CLOSE);
            readIf();
        }

        private void readPut() {
            tableAt = reader.need(Word.NAME);
            reader.need(Word.OPEN);
            for (int i = 0; i < TEXT_ROOM && isDue(i); i++) {
                readItem();
            }
            closeAt = reader.need(Word.CLOSE);
        }

        private void readSet() {
            tableAt = reader.need(Word.NAME);
            for (int i = 0; i < TEXT_ROOM && isDue(i); i++) {
                addColumn(reader.need(Word.NAME));
                reader.need(Word.EQUAL);
                readItem();
            }
            readIf();
        }

        /** Whether the first part of a list is due, or a ',' was there, and so another part. */
        private boolean isDue(int index) {
            return index == 0 || reader.take(Word.COMMA);
        }

        private void readIf() {
            ifFrom = code.size;
            if (reader.take(Word.IF)) {
                code.read(reader);
            }
            ifTo = code.size;
        }

        private void readItem() {
            Word word = reader.word();
            addItem(canStandAsItem(word) ? word : Word.NAME);
            if (!canStandAsItem(word)) {
                code.read(reader);
                return;
            }
            reader.take(word);
            if (word != Word.COUNT && word != Word.NEXT) {
                reader.need(Word.OPEN);
                code.read(reader);
                reader.need(Word.CLOSE);
            }
        }

        private boolean canStandAsItem(Word word) {
            if (verb == Word.GET) {
                return word == Word.COUNT || word == Word.SUM || word == Word.LEAST || word == Word.MOST;
            }
            return verb == Word.PUT && word == Word.NEXT;
        }

        private void addItem(Word kind) {
            if (items >= 0 && items < itemKinds.length && items < itemAts.length && items < itemFroms.length) {
                itemKinds[items] = kind;
                itemAts[items] = reader.at;
                itemFroms[items] = code.size;
                items++;
            }
        }

        private void addColumn(int token) {
            if (columns >= 0 && columns < columnAts.length) {
                columnAts[columns] = token;
                columns++;
            }
        }

        /** count, sum, least, most or next, or NAME for an expression. */
        Word itemKind(int item) {
            return item >= 0 && item < items && item < itemKinds.length ? itemKinds[item] : Word.NAME;
        }

        int itemPlace(int item) {
            return item >= 0 && item < itemAts.length ? reader.place(itemAts[item]) : 0;
        }

        int itemFrom(int item) {
            return item >= 0 && item < items && item < itemFroms.length ? itemFroms[item] : ifFrom;
        }

        /** Where the code of an item ends: where that of the next one, or of the condition, begins. */
        int itemTo(int item) {
            return item + 1 < items ? itemFrom(item + 1) : verb == Word.PUT || verb == Word.LOWER ? code.size : ifFrom;
        }

        int itemResult(int item, Entry one, Entry two) {
            return code.result(itemFrom(item), itemTo(item), one, two);
        }

        /** Whether the expression behind if is true, or there is none. */
        boolean isMeant(Entry one, Entry two) {
            int number = ifTo > ifFrom ? code.result(ifFrom, ifTo, one, two) : 1;
            return number != NOTHING && number != 0;
        }

        int columnAt(int index) {
            return index >= 0 && index < columns && index < columnAts.length ? columnAts[index] : -1;
        }

        int columnName(int index) {
            return reader.value(columnAt(index));
        }

        int columnPlace(int index) {
            return reader.place(columnAt(index));
        }

        /** The index of the first column told that has a name, or -1. */
        int columnNamed(int name) {
            for (int i = 0; i < columns; i++) {
                if (reader.value(columnAt(i)) == name) {
                    return i;
                }
            }
            return -1;
        }
    }

    /** What the names of a statement mean, and the first of its tokens that is told to be a fault. */
    private static final class Meaning {
        private Statement statement;
        private ArrayList<Table> standing;
        private int label;
        private int wrong;
        Table one;
        Table two;
        boolean isGrouped;
        int firstColumn;
        int secondColumn;
        private final int[] columns = new int[TEXT_ROOM];

        /** Tells the place of the fault, or -1. */
        int bind(Statement said, ArrayList<Table> all, int by) {
            statement = said;
            standing = all;
            label = by;
            wrong = -1;
            one = null;
            two = null;
            if (said.verb == Word.TABLE) {
                bindTable();
                return wrong;
            }
            one = tableNamed(said.tableAt);
            if (said.joinAt >= 0) {
                two = tableNamed(said.joinAt);
            }
            switch (said.verb) {
                case GET:
                    bindGet();
                    break;
                case SET:
                    bindSet();
                    break;
                case PUT:
                    bindPut();
                    break;
                case LOWER:
                    refuseRows();
                    break;
                default:
                    bindCode(0, said.code.size);
            }
            return wrong;
        }

        private void blame(int place) {
            if (wrong < 0 || place < wrong) {
                wrong = place;
            }
        }

        /** The table of a name, for the label; of those that there are the last one has the greatest label. */
        private Table tableNamed(int token) {
            int name = statement.reader.value(token);
            for (int i = standing.size() - 1; i >= 0; i--) {
                Table table = standing.get(i);
                if (table.name == name && isBelow(table.label, label)) {
                    return table;
                }
            }
            blame(statement.reader.place(token));
            return null;
        }

        /** Whether all tables told are there; otherwise no column is a fault by not being there. */
        private boolean hasTables() {
            return one != null && (two != null || statement.joinAt < 0);
        }

        private int columnOf(int name) {
            int column = one == null ? -1 : one.columnOf(name);
            if (column >= 0 || one == null || two == null) {
                return column;
            }
            column = two.columnOf(name);
            return column < 0 ? -1 : column + one.width();
        }

        private void bindCode(int from, int to) {
            Formula code = statement.code;
            for (int i = from; i < to; i++) {
                if (code.op(i) == Word.NAME) {
                    int column = columnOf(code.arg(i));
                    if (column < 0 && hasTables()) {
                        blame(code.place(i));
                    }
                    code.setArg(i, column);
                }
            }
        }

        /** Where there are no rows, each column and label is a fault. */
        private void refuseRows() {
            Formula code = statement.code;
            for (int i = 0; i < code.size; i++) {
                if (code.op(i) == Word.NAME || code.op(i) == Word.LABEL) {
                    blame(code.place(i));
                }
            }
        }

        private void bindGet() {
            isGrouped = statement.columns > 0;
            for (int i = 0; i < statement.items; i++) {
                isGrouped = isGrouped || statement.itemKind(i) != Word.NAME;
            }
            if (isGrouped) {
                bindGroups();
            }
            bindCode(0, statement.code.size);
            bindColumns();
            if (statement.joinAt >= 0) {
                bindOn();
            }
            int number = statement.reader.value(statement.orderAt);
            if (statement.orderAt >= 0 && hasTables() && (number < 1 || number > answerWidth())) {
                blame(statement.reader.place(statement.orderAt));
            }
        }

        private void bindOn() {
            Reader reader = statement.reader;
            firstColumn = one == null ? -1 : one.columnOf(reader.value(statement.firstAt));
            secondColumn = two == null ? -1 : two.columnOf(reader.value(statement.secondAt));
            if (hasTables() && firstColumn < 0) {
                blame(reader.place(statement.firstAt));
            }
            if (hasTables() && secondColumn < 0) {
                blame(reader.place(statement.secondAt));
            }
        }

        private void bindGroups() {
            if (statement.allAt >= 0) {
                blame(statement.reader.place(statement.allAt));
            }
            for (int i = 0; i < statement.items; i++) {
                if (statement.itemKind(i) == Word.NAME) {
                    bindGrouped(statement.itemFrom(i), statement.itemTo(i));
                }
            }
        }

        private void bindGrouped(int from, int to) {
            Formula code = statement.code;
            for (int i = from; i < to; i++) {
                boolean isStray = code.op(i) == Word.NAME && statement.columnNamed(code.arg(i)) < 0;
                if (isStray || code.op(i) == Word.LABEL) {
                    blame(code.place(i));
                }
            }
        }

        private void bindColumns() {
            for (int i = 0; i < statement.columns && i < columns.length; i++) {
                columns[i] = columnOf(statement.columnName(i));
                if (columns[i] < 0 && hasTables()) {
                    blame(statement.columnPlace(i));
                }
            }
        }

        private void bindSet() {
            bindColumns();
            for (int i = 0; i < statement.columns; i++) {
                if (column(i) == 0 || statement.columnNamed(statement.columnName(i)) < i) {
                    blame(statement.columnPlace(i));
                }
            }
            bindCode(0, statement.code.size);
        }

        private void bindPut() {
            refuseRows();
            if (one == null) {
                return;
            }
            for (int i = 0; i < statement.items; i++) {
                boolean isNext = statement.itemKind(i) == Word.NEXT;
                boolean isNextDue = i == 0 && one.kindOf(0) == Word.AUTO;
                if (isNext != isNextDue || i >= one.width()) {
                    blame(statement.itemPlace(i));
                }
            }
            if (statement.items < one.width()) {
                blame(statement.reader.place(statement.closeAt));
            }
        }

        private void bindTable() {
            for (int i = 0; i < statement.columns; i++) {
                if (i >= COLUMN_ROOM || statement.columnNamed(statement.columnName(i)) < i) {
                    blame(statement.columnPlace(i));
                }
                int token = statement.columnAt(i) + 1;
                Word kind = statement.reader.kind(token);
                boolean isOfKey = kind == Word.KEY || kind == Word.AUTO;
                if (isOfKey != (i == 0)) {
                    blame(statement.reader.place(token));
                }
                if (kind == Word.REF) {
                    tableNamed(token + 1);
                }
            }
            Formula code = statement.code;
            for (int i = 0; i < code.size; i++) {
                if (code.op(i) == Word.NAME) {
                    int column = statement.columnNamed(code.arg(i));
                    if (column < 0) {
                        blame(code.place(i));
                    }
                    code.setArg(i, column);
                }
            }
        }

        /** The table that the statement tells, once it is found to be without a fault. */
        Table newTable(int serial) {
            Formula code = statement.code;
            Formula check = null;
            if (code.size > 0) {
                check = new Formula(code.size);
                for (int i = 0; i < code.size; i++) {
                    check.add(code.op(i), code.arg(i), code.place(i));
                }
            }
            int name = statement.reader.value(statement.tableAt);
            Table table = new Table(serial, name, label, statement.columns, check);
            for (int i = 0; i < statement.columns; i++) {
                int token = statement.columnAt(i) + 1;
                Word kind = statement.reader.kind(token);
                Table ref = kind == Word.REF ? tableNamed(token + 1) : null;
                table.setColumn(i, statement.columnName(i), kind, ref);
            }
            return table;
        }

        /** The column that a name means that the statement tells by itself, outside of expressions. */
        int column(int index) {
            return index >= 0 && index < columns.length ? columns[index] : -1;
        }

        int answerWidth() {
            if (statement.allAt < 0 || one == null) {
                return statement.items;
            }
            return two == null ? one.width() : one.width() + two.width();
        }
    }

    /** What a statement, or the end of a transaction, would make of the entries. */
    private static final class Change {
        final Shelf draft = new Shelf();
        /** One entry for each place that was changed. */
        final ArrayList<Entry> touched = new ArrayList<>();
        private final ArrayList<Entry> made = new ArrayList<>();
        private final Sight sight = new Sight();
        private int label;
        int altered;
        boolean isGiven;

        void start(Shelf view, int by) {
            draft.fill(view);
            touched.clear();
            made.clear();
            label = by;
            altered = 0;
            isGiven = false;
        }

        private void make(Entry row) {
            draft.store(row);
            touched.add(row);
            made.add(row);
        }

        char put(Statement statement, Meaning meaning) {
            Table table = meaning.one;
            if (table == null) {
                return 'n';
            }
            int[] cells = new int[table.width()];
            isGiven = statement.itemKind(0) == Word.NEXT;
            for (int i = 0; i < cells.length; i++) {
                cells[i] = i == 0 && isGiven ? table.nextKey(label) : statement.itemResult(i, null, null);
            }
            int key = cells.length > 0 ? cells[0] : NOTHING;
            if (key == NOTHING) {
                return 'n';
            }
            Entry there = draft.find(table, key, label);
            if (there != null && !there.isVeil) {
                return 'k';
            }
            altered = 1;
            make(new Entry(table, key, label, false, cells));
            return 0;
        }

        /** Sets or cuts; of one key the row whose label is the greatest number comes first here, and alone. */
        void alterSeen(Statement statement, Meaning meaning, Sight seen) {
            Entry last = null;
            for (int i = seen.size() - 1; i >= 0; i--) {
                Entry row = seen.get(i);
                if (row == null || !row.isOf(meaning.one) || last != null && last.key == row.key
                        || !statement.isMeant(row, null)) {
                    continue;
                }
                last = row;
                altered++;
                if (statement.verb == Word.SET) {
                    set(row, statement, meaning);
                } else {
                    cut(row);
                }
            }
        }

        private void set(Entry row, Statement statement, Meaning meaning) {
            int[] cells = new int[row.table.width()];
            for (int i = 0; i < cells.length; i++) {
                cells[i] = row.hold(i);
            }
            for (int i = 0; i < statement.columns; i++) {
                int column = meaning.column(i);
                if (column > 0 && column < cells.length) {
                    cells[column] = statement.itemResult(i, row, null);
                }
            }
            make(new Entry(row.table, row.key, label, false, cells));
        }

        private void cut(Entry row) {
            Entry there = draft.find(row.table, row.key, label);
            if (there != null) {
                draft.take(row.table, row.key, label);
            }
            if (draft.hasChosen(row.table, row.key, label)) {
                there = new Entry(row.table, row.key, label, true, new int[0]);
                draft.store(there);
            }
            if (there != null) {
                touched.add(there);
            }
        }

        char lower(Statement statement, Meaning meaning) {
            Table table = meaning.one;
            int key = statement.itemResult(0, null, null);
            if (table == null || key == NOTHING) {
                return 'n';
            }
            int other = statement.itemResult(1, null, null);
            if (!isLabel(other) || other == label || !isBelow(other, label) || !isBelow(table.label, other)) {
                return 'l';
            }
            Entry row = draft.find(table, key, label);
            if (row == null || row.isVeil) {
                return 'k';
            }
            make(new Entry(table, key, other, false, row.cells));
            return draft.count(table, other) > ENTRY_ROOM ? 'f' : (char) 0;
        }

        /** The reason for which a change of a table is refused, or 0. */
        char judge(Table table) {
            if (table == null) {
                return 'n';
            }
            if (draft.count(table, label) > ENTRY_ROOM) {
                return 'f';
            }
            if (draft.hasTwins(table, label)) {
                return 'u';
            }
            sight.look(draft, label);
            for (int i = 0; i < made.size(); i++) {
                if (!sight.isMet(made.get(i))) {
                    return 'r';
                }
            }
            Formula check = table.check;
            for (int i = 0; i < made.size() && check != null; i++) {
                int number = check.result(0, check.size, made.get(i), null);
                if (number == NOTHING || number == 0) {
                    return 'c';
                }
            }
            return 0;
        }

        /** Drafts all that there is with what a transaction changed; tells why it is refused, or 0. */
        char merge(Session own, Shelf all, ArrayList<Entry> ended) {
            ArrayList<Entry> changed = own.changed;
            for (int i = 0; i < changed.size(); i++) {
                if (changed.get(i).table.isDropped) {
                    return 'd';
                }
            }
            for (int i = Math.max(own.since, 0); i < ended.size(); i++) {
                if (own.hasChanged(ended.get(i))) {
                    return 'x';
                }
            }
            start(all, own.label);
            for (int i = 0; i < changed.size(); i++) {
                take(changed.get(i), own.shelf);
            }
            for (int i = 0; i < changed.size(); i++) {
                if (draft.count(changed.get(i).table, label) > ENTRY_ROOM) {
                    return 'f';
                }
            }
            for (int i = 0; i < changed.size(); i++) {
                if (draft.hasTwins(changed.get(i).table, label)) {
                    return 'u';
                }
            }
            return 0;
        }

        /** Drafts a place as another shelf has it. */
        private void take(Entry place, Shelf from) {
            Entry entry = from.find(place.table, place.key, place.label);
            if (entry == null) {
                draft.take(place.table, place.key, place.label);
            } else {
                draft.store(entry);
            }
        }
    }

    /** Works out an answer; only the lines that can be told are kept. */
    private static final class Query {
        private Statement statement;
        private Meaning meaning;
        private final ArrayList<Entry> firsts = new ArrayList<>();
        private final ArrayList<Entry> seconds = new ArrayList<>();
        /** The rows that are left, each as its number, or a pair as one number. */
        private int[] picked = new int[ANSWER_ROOM];
        private int pickedSize;
        private final int[] line = new int[TEXT_ROOM];
        private int keep;
        private int offered;
        private int sortItem;
        private boolean isDown;
        int[] lines = new int[ANSWER_ROOM];
        int lineCount;
        int width;

        /** Tells whether the answer is not too long. */
        boolean answer(Statement said, Meaning meant, Shelf view, Sight sight) {
            statement = said;
            meaning = meant;
            width = Math.min(meant.answerWidth(), line.length);
            sortItem = said.orderAt < 0 ? -1 : said.reader.value(said.orderAt) - 1;
            isDown = said.reader.kind(said.orderAt - 1) == Word.DOWN;
            int top = said.topAt < 0 ? GREATEST : said.reader.value(said.topAt);
            keep = Math.min(top, ANSWER_ROOM);
            offered = 0;
            lineCount = 0;
            gather(firsts, meant.one, view, sight);
            gather(seconds, meant.two, view, sight);
            pick();
            if (meant.isGrouped) {
                offerGroups();
            } else {
                for (int i = 0; i < pickedSize; i++) {
                    reckonLine(i, i + 1);
                    offer();
                }
            }
            return Math.min(offered, top) <= ANSWER_ROOM;
        }

        private void gather(ArrayList<Entry> list, Table table, Shelf view, Sight sight) {
            list.clear();
            int size = statement.isEach ? view.size() : sight.size();
            for (int i = 0; i < size && table != null; i++) {
                Entry row = statement.isEach ? view.get(i) : sight.get(i);
                if (row != null && row.isOf(table) && !row.isVeil && isBelow(row.label, sight.label)) {
                    list.add(row);
                }
            }
        }

        private void pick() {
            pickedSize = 0;
            for (int i = 0; i < firsts.size(); i++) {
                Entry one = firsts.get(i);
                if (statement.joinAt < 0) {
                    if (statement.isMeant(one, null)) {
                        addPicked(i);
                    }
                } else {
                    pickPairs(i, one);
                }
            }
        }

        private void pickPairs(int index, Entry one) {
            int held = one.hold(meaning.firstColumn);
            for (int i = 0; i < seconds.size() && held != NOTHING; i++) {
                Entry two = seconds.get(i);
                if (two.hold(meaning.secondColumn) == held && statement.isMeant(one, two)) {
                    addPicked(index * seconds.size() + i);
                }
            }
        }

        private void addPicked(int pair) {
            if (pickedSize == picked.length) {
                int[] more = new int[picked.length * 2 + 1];
                System.arraycopy(picked, 0, more, 0, picked.length);
                picked = more;
            }
            if (pickedSize >= 0 && pickedSize < picked.length) {
                picked[pickedSize] = pair;
                pickedSize++;
            }
        }

        private int pickedAt(int index) {
            return index >= 0 && index < pickedSize && index < picked.length ? picked[index] : -1;
        }

        private Entry firstOf(int pair) {
            int stride = statement.joinAt < 0 ? 1 : seconds.size();
            int index = stride > 0 && pair >= 0 ? pair / stride : -1;
            return index >= 0 && index < firsts.size() ? firsts.get(index) : null;
        }

        private Entry secondOf(int pair) {
            int stride = statement.joinAt < 0 ? 0 : seconds.size();
            int index = stride > 0 && pair >= 0 ? pair % stride : -1;
            return index >= 0 && index < seconds.size() ? seconds.get(index) : null;
        }

        private void offerGroups() {
            if (statement.columns == 0) {
                reckonLine(0, pickedSize);
                offer();
                return;
            }
            sortPicked();
            int from = 0;
            while (from < pickedSize) {
                int to = from + 1;
                while (to < pickedSize && compareBy(pickedAt(from), pickedAt(to)) == 0) {
                    to++;
                }
                reckonLine(from, to);
                offer();
                from = to;
            }
        }

        /** By a heap, in place, so that a great many pairs need no more room. */
        private void sortPicked() {
            for (int i = pickedSize / 2 - 1; i >= 0; i--) {
                sink(i, pickedSize);
            }
            for (int i = pickedSize - 1; i > 0 && i < picked.length; i--) {
                int greatest = picked[0];
                picked[0] = picked[i];
                picked[i] = greatest;
                sink(0, i);
            }
        }

        private void sink(int from, int size) {
            int at = from;
            for (int child = 2 * at + 1; child >= 0 && child < size && size <= picked.length; child = 2 * at + 1) {
                if (child + 1 < size && compareBy(picked[child], picked[child + 1]) < 0) {
                    child++;
                }
                if (at < 0 || at >= child || compareBy(picked[at], picked[child]) >= 0) {
                    return;
                }
                int less = picked[at];
                picked[at] = picked[child];
                picked[child] = less;
                at = child;
            }
        }

        private int compareBy(int pair, int other) {
            for (int i = 0; i < statement.columns; i++) {
                int column = meaning.column(i);
                int order = Integer.compare(cellOf(firstOf(pair), secondOf(pair), column),
                        cellOf(firstOf(other), secondOf(other), column));
                if (order != 0) {
                    return order;
                }
            }
            return 0;
        }

        /** Works a line out on the rows that were picked from one index to another. */
        private void reckonLine(int from, int to) {
            int pair = from < to ? pickedAt(from) : -1;
            Entry one = firstOf(pair);
            Entry two = secondOf(pair);
            for (int i = 0; i < width && i < line.length; i++) {
                Word kind = statement.itemKind(i);
                if (statement.allAt >= 0) {
                    line[i] = cellOf(one, two, i);
                } else if (kind == Word.COUNT) {
                    line[i] = to - from;
                } else if (kind == Word.NAME) {
                    line[i] = statement.itemResult(i, one, two);
                } else {
                    line[i] = folded(kind, i, from, to);
                }
            }
        }

        private int folded(Word kind, int item, int from, int to) {
            int start = statement.itemFrom(item);
            int end = statement.itemTo(item);
            boolean hasAny = false;
            long sum = 0;
            int least = GREATEST;
            int most = -GREATEST;
            for (int i = from; i < to; i++) {
                int number = statement.code.result(start, end, firstOf(pickedAt(i)), secondOf(pickedAt(i)));
                if (number != NOTHING) {
                    hasAny = true;
                    sum += number;
                    least = Math.min(least, number);
                    most = Math.max(most, number);
                }
            }
            if (!hasAny) {
                return NOTHING;
            }
            if (kind == Word.SUM) {
                return sum < -GREATEST || sum > GREATEST ? NOTHING : (int) sum;
            }
            return kind == Word.LEAST ? least : most;
        }

        /** Puts the line among those that are kept, if it is one of the first ones. */
        private void offer() {
            offered++;
            int place = lineCount;
            while (place > 0 && compareLine(place - 1) < 0) {
                place--;
            }
            if (place >= keep) {
                return;
            }
            if (lineCount < keep) {
                lineCount++;
            }
            int size = lineCount * width;
            if (size > lines.length) {
                int[] more = new int[Math.min(size * 2, ANSWER_ROOM * TEXT_ROOM)];
                System.arraycopy(lines, 0, more, 0, Math.min(lines.length, more.length));
                lines = more;
            }
            int start = place * width;
            int moved = size - start - width;
            if (start >= 0 && moved >= 0 && size <= lines.length) {
                System.arraycopy(lines, start, lines, start + width, moved);
                System.arraycopy(line, 0, lines, start, width);
            }
        }

        /** Compares the line with one that is kept. */
        private int compareLine(int index) {
            int start = index * width;
            if (start < 0 || start + width > lines.length) {
                return 0;
            }
            if (sortItem >= 0 && sortItem < width && line[sortItem] != lines[start + sortItem]) {
                return line[sortItem] < lines[start + sortItem] == isDown ? 1 : -1;
            }
            for (int i = 0; i < width; i++) {
                if (line[i] != lines[start + i]) {
                    return line[i] < lines[start + i] ? -1 : 1;
                }
            }
            return 0;
        }
    }
}
