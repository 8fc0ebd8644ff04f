/** The sentences of the promises that name an edge or a wrong input, promise by promise. */
public final class FaceTest {
    private static final String INDEX = "IndexOutOfBoundsException";
    private static final String ARGUMENT = "IllegalArgumentException";
    private static final String STATE = "IllegalStateException";
    private static final String ELEMENT = "NoSuchElementException";
    private static final String UNSUPPORTED = "UnsupportedOperationException";
    private static final String ARITHMETIC = "ArithmeticException";
    private static final int[] NO_SESSIONS = {-1, 8, 9, -8, Integer.MIN_VALUE, Integer.MAX_VALUE};
    private static final int[] NO_LABELS = {-1, 64, 65, -64, 127, Integer.MIN_VALUE, Integer.MAX_VALUE};

    private static Object more(Desk d, int session, int many, String signs) {
        char[] c = signs.toCharArray();
        return d.house.typeMore(session, many, c[0], c[1], c[2], c[3], c[4], c[5], c[6], c[7]);
    }

    private static long sum(long... parts) {
        long s = 7;
        for (long p : parts) {
            s = 31 * s + p;
        }
        return s;
    }

    private static long sumOfText(String text) {
        long s = sum(0, 0);
        for (char sign : text.toCharArray()) {
            s = 31 * s + sign;
        }
        return s;
    }

    /** "Throws IndexOutOfBoundsException if there is no such session": ahead of all else that is wrong. */
    private static void noSuchSession() {
        for (int s : NO_SESSIONS) {
            Desk d = new Desk("no session " + s);
            String before = d.picture();
            d.due("type", () -> d.house.type(s, 'a'), INDEX).due("type 31", () -> d.house.type(s, (char) 31), INDEX);
            d.due("typeMore", () -> more(d, s, 1, "abcdefgh"), INDEX).due("typeMore 0", () -> more(d, s, 0, "abcdefgh"), INDEX);
            d.due("typeMore bad", () -> more(d, s, 1, "\tbcdefgh"), INDEX).due("erase", () -> d.house.erase(s), INDEX);
            d.due("enter", () -> d.house.enter(s, 0), INDEX).due("enter 64", () -> d.house.enter(s, 64), INDEX);
            d.due("label", () -> d.house.label(s), INDEX).due("run", () -> d.house.run(s), INDEX);
            d.due("reason", () -> d.house.reason(s), INDEX).due("rows", () -> d.house.rows(s), INDEX);
            d.due("columns", () -> d.house.columns(s), INDEX).due("isKnown", () -> d.house.isKnown(s, 0, 0), INDEX);
            d.due("cell", () -> d.house.cell(s, 0, 0), INDEX).begin(s, INDEX).end(s, INDEX).giveUp(s, INDEX);
            d.due("isOpen", () -> d.house.isOpen(s), INDEX).due("tables", () -> d.house.tables(s), INDEX).seen(s, INDEX);
            d.audit(s, 0, 'd', INDEX).audit(s, 64, 'd', INDEX).audit(s, 0, 'x', INDEX).audit(s, 63, 'd', INDEX);
            d.due("checksum", () -> d.house.checksum(s), INDEX).due("veilShare", () -> d.house.veilShare(s), INDEX);
            d.due("meanLevel", () -> d.house.meanLevel(s), INDEX).due("nothing changed", d::picture, before);
            d.audit(0, 0, 'd', 0).audit(0, 0, 'r', 0).audit(0, 0, 'f', 0).audit(0, 0, 'c', 0);
        }
    }

    /** "There are the sessions 0 to 7, each at a label, 0 at first, with a typed text of its own .. and an answer of its own" */
    private static void eightSessions() {
        Desk d = new Desk("eight sessions");
        d.say(0, "table t(a key)", 1).say(0, "put t(5)", 1);
        for (int i = 0; i < 8; i++) {
            int s = i;
            d.due("label", () -> d.house.label(s), 0).get(s, "get " + "1,".repeat(i) + "1 from t", "1" + " 1".repeat(i));
        }
        for (int i = 0; i < 8; i++) {
            int s = i;
            d.enter(i, 60 - i).say(i, "get " + "a,".repeat(i) + "a from t if " + (i % 2), i % 2).write(i, "x".repeat(i + 1));
            d.due("open", () -> d.house.isOpen(s), false).begin(s, 1);
        }
        for (int i = 0; i < 8; i++) {
            int s = i;
            d.due("label", () -> d.house.label(s), 60 - i).due("rows", () -> d.house.rows(s), i % 2);
            d.due("columns", () -> d.house.columns(s), i + 1).due("erase", () -> d.house.erase(s), i + 1);
            d.due("open", () -> d.house.isOpen(s), true).giveUp(s, 0).due("closed", () -> d.house.isOpen(s), false);
        }
    }

    /** "Types a sign behind the text of a session": its code is 32 to 126, and it has at most 120. */
    private static void signs() {
        Desk d = new Desk("type");
        for (int bad : new int[] {0, 9, 10, 31, 127, 128, 160, 255, 256, 0x141, 65535}) {
            d.due("type code " + bad, () -> d.house.type(0, (char) bad), ARGUMENT);
        }
        d.due("no sign came", () -> d.house.checksum(0), sumOfText(""));
        String all = "";
        for (int code = 32; code <= 126; code++) {
            char sign = (char) code;
            all += sign;
            int many = all.length();
            d.due("type code " + code, () -> d.house.type(0, sign), many);
        }
        String text = all;
        d.due("the signs", () -> d.house.checksum(0), sumOfText(text)).due("erase", () -> d.house.erase(0), 95);
        d.anew().write(0, "~".repeat(119)).due("119 to 120", () -> d.house.type(0, '!'), 120);
        d.due("121", () -> d.house.type(0, '!'), STATE).due("31 as 121", () -> d.house.type(0, (char) 31), ARGUMENT);
        d.due("goes round", () -> d.house.checksum(0), sumOfText("~".repeat(119) + "!")).due("erase", () -> d.house.erase(0), 120);
        d.due("again", () -> d.house.type(0, 'x'), 1);
    }

    /** "how many of the next ones, 1 to 8", "those that are not typed are not looked at" */
    private static void someSigns() {
        Desk d = new Desk("typeMore");
        for (int bad : new int[] {0, -1, 9, 10, Integer.MIN_VALUE, Integer.MAX_VALUE}) {
            d.due("typeMore " + bad, () -> more(d, 0, bad, "abcdefgh"), ARGUMENT);
        }
        for (int many = 1; many <= 8; many++) {
            int own = many;
            String good = "ABCDEFGH".substring(0, many) + "\t\t\t\t\t\t\t\t".substring(many);
            d.due("typeMore " + many, () -> more(d, 0, own, good), many).due("which", () -> d.house.checksum(0),
                    sumOfText("ABCDEFGH".substring(0, many))).due("erase", () -> d.house.erase(0), many);
            for (char sign : new char[] {31, 127}) {
                String bad = good.substring(0, many - 1) + sign + good.substring(many);
                d.due("bad at " + many, () -> more(d, 0, own, bad), ARGUMENT).due("of 8", () -> more(d, 0, 8, bad), ARGUMENT);
            }
            d.due("nothing typed", () -> d.house.erase(0), 0);
        }
        String ends = " ~ ~ ~ ~";
        d.anew().due("32 and 126", () -> more(d, 0, 8, ends), 8).due("which", () -> d.house.checksum(0), sumOfText(ends));
    }

    /** "if it would have more than 120 signs": looked at behind the number and the signs, and then none is typed. */
    private static void fullText() {
        for (int many = 1; many <= 8; many++) {
            int own = many;
            Desk d = new Desk("full text");
            d.write(3, "a".repeat(121 - many)).due("121 of " + many, () -> more(d, 3, own, "bbbbbbbb"), STATE);
            d.due("a bad sign", () -> more(d, 3, own, "bbbbbbbb".substring(0, own - 1) + (char) 127 + "bbbbbbb"), ARGUMENT);
            d.due("a bad number", () -> more(d, 3, 0, "bbbbbbbb"), ARGUMENT).due("9", () -> more(d, 3, 9, "bbbbbbbb"), ARGUMENT);
            d.due("kept", () -> d.house.checksum(3), sumOfText("a".repeat(121 - many))).due("erase", () -> d.house.erase(3), 121 - many);
            d.write(3, "a".repeat(120 - many)).due("120 of " + many, () -> more(d, 3, own, "bbbbbbbb"), 120);
            d.due("kept", () -> d.house.checksum(3), sumOfText("a".repeat(120 - many) + "b".repeat(many)));
            d.due("one more", () -> more(d, 3, 1, "bbbbbbbb"), STATE).due("run", () -> d.house.run(3), -1);
        }
    }

    /** "Takes the text of a session away": it alone. */
    private static void erased() {
        Desk d = new Desk("erase");
        d.say(1, "table t(a key)", 1).refused(1, "put t(none)", 'n').say(1, "put t(3)", 1).get(1, "get a from t", "3").begin(1, 1).say(1, "put t(4)", 1);
        d.write(1, "abc").write(2, "de").due("erase", () -> d.house.erase(1), 3).due("erase again", () -> d.house.erase(1), 0);
        d.due("reason", () -> d.house.reason(1), 'n').due("answer", () -> d.answer(1), "3").due("isOpen", () -> d.house.isOpen(1), true);
        d.due("other text", () -> d.house.erase(2), 2).giveUp(1, 1).fault(1, "").audit(1, 0, 'f', 1);
    }

    /** "As a session enters a label, also its own, its text, its answer and the reason of its last refusal are gone .." */
    private static void entered() {
        for (int label : new int[] {5, 21, 63}) {
            Desk d = new Desk("enter " + label);
            d.say(1, "table t(a key)", 1).say(1, "put t(3)", 1).enter(1, 5).refused(1, "put t(none)", 'n').get(1, "get a,a from t", "3 3");
            d.begin(1, 1).say(1, "put t(4)", 1).seen(1, 2).write(1, "abc").due("enter", () -> d.house.enter(1, label), 5);
            d.due("label", () -> d.house.label(1), label).due("rows", () -> d.house.rows(1), 0).due("columns", () -> d.house.columns(1), 0);
            d.due("cell", () -> d.house.cell(1, 0, 0), INDEX).due("reason", () -> d.house.reason(1), ELEMENT);
            d.due("isOpen", () -> d.house.isOpen(1), false).seen(1, 1).end(1, STATE).giveUp(1, STATE).due("erase", () -> d.house.erase(1), 0);
            d.enter(1, 63).audit(1, 5, 'c', 0).audit(1, 5, 'r', 1).audit(1, 5, 'd', 2).begin(1, 1).end(1, 0).audit(1, 63, 'c', 1);
        }
    }

    /** "Throws IllegalArgumentException if there is no such label": and nothing is gone. */
    private static void notEntered() {
        for (int bad : NO_LABELS) {
            Desk d = new Desk("enter " + bad);
            d.enter(1, 7).say(1, "table t(a key)", 1).refused(1, "put t(none)", 'n').say(1, "put t(3)", 1).get(1, "get a from t", "3");
            d.begin(1, 1).say(1, "put t(4)", 1).write(1, "abc").due("enter", () -> d.house.enter(1, bad), ARGUMENT);
            d.due("label", () -> d.house.label(1), 7).due("answer", () -> d.answer(1), "3").due("reason", () -> d.house.reason(1), 'n');
            d.due("isOpen", () -> d.house.isOpen(1), true).seen(1, 2).due("erase", () -> d.house.erase(1), 3).end(1, 1);
        }
        Desk d = new Desk("enter");
        int before = 0;
        for (int label = 0; label < 64; label++) {
            int own = label;
            d.due("enter " + label, () -> d.house.enter(7, own), before).due("label", () -> d.house.label(7), label);
            before = label;
        }
    }

    /** "the text is taken away with it, whatever comes of it" */
    private static void textTaken() {
        Desk d = new Desk("run takes the text");
        d.say(2, "table t(a key)", 1).due("done", () -> d.house.erase(2), 0).fault(2, "table t(q@)").due("fault", () -> d.house.erase(2), 0);
        d.refused(2, "table t(a key)", 't').due("refused", () -> d.house.erase(2), 0).fault(2, "").fault(2, " ".repeat(120));
        d.write(3, "put t(1)").say(2, "put t(2)", 1).due("other text", () -> d.house.run(3), 1).seen(2, 2);
    }

    /** "the last refusal of a session, of a statement, or at the end of a transaction, since it entered its label" */
    private static void reasons() {
        Desk d = new Desk("reason");
        d.due("none", () -> d.house.reason(0), ELEMENT).fault(0, "@$").due("a fault", () -> d.house.reason(0), ELEMENT);
        d.begin(0, 0).begin(0, STATE).end(0, 0).end(0, STATE).due("exceptions", () -> d.house.reason(0), ELEMENT);
        d.audit(0, 63, 'd', UNSUPPORTED).due("audit", () -> d.house.reason(0), ELEMENT);
        d.say(0, "table t(a key)", 1).refused(0, "table t(a key)", 't').refused(0, "put t(none)", 'n').say(0, "put t(1)", 1);
        d.due("kept", () -> d.house.reason(0), 'n').refused(0, "put t(1)", 'k').fault(0, "@$").due("kept", () -> d.house.reason(0), 'k');
        d.due("of its own", () -> d.house.reason(1), ELEMENT).begin(0, 1).giveUp(0, 0).due("kept", () -> d.house.reason(0), 'k');
        d.begin(1, 1).say(1, "cut t", 1).say(0, "cut t", 1).endRefused(1, 'x').due("kept", () -> d.house.reason(0), 'k');
        d.begin(1, 0).due("begun", () -> d.house.reason(1), 'x').end(1, 0).due("ended", () -> d.house.reason(1), 'x');
        d.enter(1, 0).due("gone", () -> d.house.reason(1), ELEMENT);
    }

    /** "rows of numbers or nothing, without rows and columns at first": the answer is that of the last get that was done. */
    private static void answers() {
        Desk d = new Desk("answers");
        d.due("rows", () -> d.house.rows(0), 0).due("columns", () -> d.house.columns(0), 0).say(0, "table t(a key,b num)", 1);
        d.due("table", () -> d.house.columns(0), 0).say(0, "put t(1,none)", 1).say(0, "put t(2,-7)", 1).due("put", () -> d.house.columns(0), 0);
        d.get(0, "get b,a,a from t", "- 1 1;-7 2 2").fault(0, "get a@").due("a fault", () -> d.answer(0), "- 1 1;-7 2 2");
        d.say(0, "set t b=b+1", 2).say(0, "put t(3,3)", 1).say(0, "cut t if a=3", 1).say(0, "table u(a key)", 2).say(0, "drop u", 1);
        d.begin(0, 2).say(0, "put t(4,4)", 1).giveUp(0, 1).due("kept", () -> d.answer(0), "- 1 1;-7 2 2").due("else", () -> d.answer(1), "");
        d.get(0, "get a from t if a>5", "").due("no rows", () -> d.house.rows(0), 0).due("one column", () -> d.house.columns(0), 1);
        d.get(0, "get a,b from t top 0", "").due("two columns", () -> d.house.columns(0), 2).get(0, "get all from t", "1 -;2 -6");
    }

    /** "Throws IndexOutOfBoundsException if .. no such row or column", "NoSuchElementException if it is nothing" */
    private static void places() {
        Desk d = new Desk("places");
        d.due("new", () -> d.house.isKnown(0, 0, 0), INDEX).due("new", () -> d.house.cell(0, 0, 0), INDEX);
        d.say(0, "table t(a key,b num)", 1).say(0, "put t(-999999999,none)", 1).say(0, "put t(999999999,0)", 1).say(0, "get all from t", 2);
        d.due("0 0", () -> d.house.cell(0, 0, 0), -999999999).due("1 0", () -> d.house.cell(0, 1, 0), 999999999);
        d.due("0 1", () -> d.house.cell(0, 0, 1), ELEMENT).due("1 1", () -> d.house.cell(0, 1, 1), 0);
        d.due("0 1", () -> d.house.isKnown(0, 0, 1), false).due("1 1", () -> d.house.isKnown(0, 1, 1), true);
        d.due("0 0", () -> d.house.isKnown(0, 0, 0), true);
        int[][] outside = {{-1, 0}, {2, 0}, {0, -1}, {0, 2}, {-1, 3}, {1, -1}, {3, -2}, {1 << 31, 0}, {0, 1 << 31}, {1 << 30, 0}, {1 << 31, 1},
            {Integer.MAX_VALUE, 0}, {0, Integer.MAX_VALUE}, {Integer.MAX_VALUE, Integer.MAX_VALUE}, {-1, 2}, {-1, Integer.MAX_VALUE}};
        for (int[] p : outside) {
            d.due("isKnown " + p[0] + " " + p[1], () -> d.house.isKnown(0, p[0], p[1]), INDEX);
            d.due("cell " + p[0] + " " + p[1], () -> d.house.cell(0, p[0], p[1]), INDEX);
        }
        d.due("other answer", () -> d.house.cell(1, 0, 0), INDEX).say(0, "get a from t if a<0", 1);
        d.due("behind a shorter one", () -> d.house.cell(0, 1, 0), INDEX).due("narrower", () -> d.house.cell(0, 0, 1), INDEX);
    }

    /** "Returns how many rows are seen in all tables", "IllegalStateException if one is open" */
    private static void begun() {
        Desk d = new Desk("begin");
        d.begin(0, 0).giveUp(0, 0).enter(1, 16).say(0, "table t(a key)", 1).say(0, "table u(a key,b ref t)", 2).say(1, "table v(a key)", 1);
        d.say(0, "put t(1)", 1).say(0, "put t(2)", 1).say(0, "put u(1,1)", 1).say(0, "put u(2,2)", 1).say(1, "put v(1)", 1).say(1, "cut t if a=2", 1);
        d.begin(0, 4).begin(1, 3).say(0, "put t(3)", 1).begin(0, STATE).begin(1, STATE).seen(0, 5).seen(1, 3).end(0, 1).begin(0, 5);
        d.giveUp(0, 0).giveUp(1, 0).audit(1, 0, 'r', 0).audit(1, 0, 'f', 0).audit(1, 0, 'c', 1);
    }

    /** "Returns how many entries it changed, each once, also if they are as they were" */
    private static void ended() {
        Desk d = new Desk("end");
        d.end(0, STATE).audit(0, 0, 'c', 0).audit(0, 0, 'r', 0).begin(0, 0).end(0, 0).end(0, STATE).audit(0, 0, 'c', 1);
        d.say(0, "table t(a key,b num)", 1).say(0, "table u(a key)", 2).say(0, "put t(1,1)", 1).say(0, "put t(2,2)", 1).begin(0, 2).say(0, "set t b=b", 2).end(0, 2);
        d.begin(0, 2).say(0, "put t(3,3)", 1).say(0, "cut t if a=3", 1).say(0, "put u(3)", 1).end(0, 2).seen(0, 3);
        d.begin(0, 3).say(0, "set t b=5", 2).say(0, "set t b=6 if a=1", 1).say(0, "cut t if a=2", 1).refused(0, "put t(1,9)", 'k').fault(0, "put @zz(4)");
        d.say(0, "set t b=7 if a=9", 0).say(0, "get all from t", 1).end(0, 2).get(0, "get all from t", "1 6").audit(0, 0, 'c', 4);
        d.enter(1, 1).begin(1, 2).say(1, "cut t", 1).say(1, "put t(1,1)", 1).say(1, "cut u", 1).end(1, 2).seen(1, 1).seen(0, 2).audit(1, 1, 'c', 1);
    }

    /** "Throws UnsupportedOperationException if it is refused; it is not open then" */
    private static void endRefused() {
        Desk d = new Desk("end refused");
        d.say(0, "table t(a key,b num)", 1).say(0, "put t(1,1)", 1).begin(1, 1).begin(2, 1).say(1, "put t(5,5)", 1).say(1, "set t b=8 if a=1", 1);
        d.say(2, "set t b=9", 1).end(2, 1).endRefused(1, 'x').end(1, STATE).giveUp(1, STATE).get(1, "get all from t", "1 9");
        d.audit(0, 0, 'c', 1).audit(0, 0, 'r', 1).begin(1, 1).say(1, "set t b=7", 1).end(1, 1).get(0, "get all from t", "1 7");
    }

    /** "Returns how many entries it had changed." */
    private static void givenUp() {
        Desk d = new Desk("giveUp");
        d.giveUp(0, STATE).begin(0, 0).giveUp(0, 0).giveUp(0, STATE).say(0, "table t(a key,b num)", 1).say(0, "put t(1,1)", 1).begin(0, 1);
        d.say(0, "put t(2,2)", 1).say(0, "set t b=3", 2).say(0, "cut t if a=2", 1).giveUp(0, 2).get(0, "get all from t", "1 1");
        d.due("isOpen", () -> d.house.isOpen(0), false).audit(0, 0, 'c', 0).audit(0, 0, 'r', 0).audit(0, 0, 'd', 6).due("reason", () -> d.house.reason(0), ELEMENT);
    }

    /** "how many tables there are at or below the label of a session" */
    private static void tablesTold() {
        Desk d = new Desk("tables");
        int[] labels = {0, 3, 16, 19, 48, 63};
        for (int i = 0; i < labels.length; i++) {
            d.enter(i, labels[i]).say(i, "table t(a key)", 1).say(i, "table u(a key)", 2);
        }
        int[] due = {2, 4, 4, 8, 6, 12};
        for (int i = 0; i < due.length; i++) {
            int s = i;
            d.due("at " + labels[i], () -> d.house.tables(s), due[i]);
        }
        d.enter(6, 15).due("at 15", () -> d.house.tables(6), 4).enter(6, 60).due("at 60", () -> d.house.tables(6), 6).begin(3, 0);
        d.say(0, "drop t", 1).say(1, "table v(a key)", 3).due("in a transaction", () -> d.house.tables(3), 8).due("at 0", () -> d.house.tables(0), 1);
    }

    /** "Throws IllegalArgumentException if there is no such label or letter", ahead of a label that is not at or below */
    private static void audits() {
        Desk d = new Desk("audit");
        d.enter(1, 37).fault(1, "").fault(0, "").fault(0, "");
        for (int label = 0; label < 64; label++) {
            boolean isBelow = label / 16 <= 2 && (label % 16 & ~5) == 0;
            d.audit(1, label, 'f', !isBelow ? UNSUPPORTED : label == 37 ? (Object) 1 : label == 0 ? 2 : 0);
        }
        for (int bad : NO_LABELS) {
            d.audit(1, bad, 'f', ARGUMENT).audit(1, bad, 'x', ARGUMENT);
        }
        for (char letter : "DRFCabegxt dxfum~\0".toCharArray()) {
            if (letter != 'd' && letter != 'f') {
                d.audit(1, 0, letter, ARGUMENT).audit(1, 63, letter, ARGUMENT).audit(0, 37, letter, ARGUMENT);
            }
        }
        d.audit(0, 37, 'd', UNSUPPORTED).audit(0, 1, 'c', UNSUPPORTED).audit(0, 16, 'r', UNSUPPORTED).audit(1, 37, (char) ('f' + 256), ARGUMENT);
    }

    /** "if there is no such label, for either" */
    private static void pairsOfLabels() {
        Desk d = new Desk("pairs of labels");
        for (int bad : NO_LABELS) {
            for (int other : new int[] {0, 63, bad}) {
                d.due("isAbove", () -> d.house.isAbove(bad, other), ARGUMENT).due("isAbove", () -> d.house.isAbove(other, bad), ARGUMENT);
                d.due("joined", () -> d.house.joined(bad, other), ARGUMENT).due("joined", () -> d.house.joined(other, bad), ARGUMENT);
            }
        }
        int[][] above = {{0, 0}, {63, 63}, {63, 0}, {16, 0}, {1, 0}, {17, 16}, {17, 1}, {31, 15}, {63, 48}};
        for (int[] p : above) {
            d.due(p[0] + " above " + p[1], () -> d.house.isAbove(p[0], p[1]), true);
            d.due(p[1] + " above " + p[0], () -> d.house.isAbove(p[1], p[0]), p[0] == p[1]);
        }
        int[][] apart = {{15, 16}, {1, 2}, {17, 18}, {48, 1}, {3, 16}, {31, 32}};
        for (int[] p : apart) {
            d.due(p[0] + " and " + p[1], () -> d.house.isAbove(p[0], p[1]) || d.house.isAbove(p[1], p[0]), false);
        }
        int[][] joins = {{0, 0, 0}, {63, 63, 63}, {0, 63, 63}, {15, 48, 63}, {5, 10, 15}, {21, 34, 39}, {16, 1, 17}, {17, 33, 33}, {31, 16, 31}};
        for (int[] p : joins) {
            d.due("joined", () -> d.house.joined(p[0], p[1]), p[2]).due("joined", () -> d.house.joined(p[1], p[0]), p[2]);
        }
    }

    /** "by names, of one name by labels", "by keys, of one key by labels", "nothing as -1000000000" */
    private static void sums() {
        Desk d = new Desk("checksum");
        d.enter(1, 1).enter(2, 2).enter(3, 35).due("label alone", () -> d.house.checksum(3), sum(35, 0));
        d.say(2, "table z(a key)", 1).say(1, "table z(a key)", 1).say(0, "table zz(a key,b num)", 1).say(0, "table aaaaaa(a key)", 2).say(0, "table z(a key)", 3);
        long[] empty = {35, 'a', 'a', 'a', 'a', 'a', 'a', 0, 'z', 0, 'z', 1, 'z', 2, 'z', 'z', 0, 0};
        d.due("tables", () -> d.house.checksum(3), sum(empty));
        d.say(0, "put zz(7,none)", 1).say(1, "set zz b=-5", 1).say(2, "set zz b=6", 1).say(0, "put zz(-7,999999999)", 1).say(2, "cut zz if a<0", 1);
        d.due("rows", () -> d.house.checksum(3), sum(35, 'a', 'a', 'a', 'a', 'a', 'a', 0, 'z', 0, 'z', 1, 'z', 2, 'z', 'z', 0, 1, 7, -5, 2, 7, 6, 5));
        d.due("at 1", () -> d.house.checksum(1), sum(1, 'a', 'a', 'a', 'a', 'a', 'a', 0, 'z', 0, 'z', 1, 'z', 'z', 0, 0, -7, 999999999, 1, 7, -5, 3));
        d.due("at 0", () -> d.house.checksum(0), sum(0, 'a', 'a', 'a', 'a', 'a', 'a', 0, 'z', 0, 'z', 'z', 0, 0, -7, 999999999, 0, 7, -1000000000, 2));
        d.say(0, "drop zz", 1).write(3, "~ ").due("dropped", () -> d.house.checksum(3),
                sum(35, 'a', 'a', 'a', 'a', 'a', 'a', 0, 'z', 0, 'z', 1, 'z', 2, 0, '~', ' '));
    }

    /** "Returns whether all of this is so": it always is. */
    private static void sound() {
        Desk d = new Desk("isSound");
        d.due("new", () -> d.house.isSound(), true).enter(1, 1).say(0, "table t(a key)", 1).say(0, "table u(a key,b ref t)", 2);
        for (int i = 1; i <= 12; i++) {
            d.say(0, "put t(" + i + ")", 1).say(1, "put t(" + (i + 12) + ")", 1).say(0, "put u(" + i + "," + i + ")", 1);
        }
        d.due("full", () -> d.house.isSound(), true).begin(0, 24).say(0, "cut t", 12).due("unmet in a transaction", () -> d.house.isSound(), true);
        d.end(0, 12).due("unmet", () -> d.house.isSound(), true).say(1, "cut u", 0).say(1, "cut t", 12).due("unmet", () -> d.house.isSound(), true);
        d.say(0, "drop t", 1).due("dropped", () -> d.house.isSound(), true).seen(0, 0).seen(1, 0);
    }

    /** "Throws ArithmeticException if there are none", "both converted" */
    private static void shares() {
        Desk d = new Desk("shares");
        d.enter(1, 48).enter(2, 16).enter(3, 1).due("none", () -> d.house.veilShare(0), ARITHMETIC).due("none", () -> d.house.meanLevel(0), ARITHMETIC);
        d.say(0, "table t(a key)", 1).due("no entry", () -> d.house.veilShare(1), ARITHMETIC).say(1, "put t(1)", 1);
        d.due("none below", () -> d.house.veilShare(0), ARITHMETIC).due("one row", () -> d.house.veilShare(1), 0f).due("3", () -> d.house.meanLevel(1), 3.0);
        d.say(0, "put t(2)", 1).say(2, "cut t", 1).due("one veil of two", () -> d.house.veilShare(2), 1f / 2f).due("no row", () -> d.house.meanLevel(2), ARITHMETIC);
        d.due("one of three", () -> d.house.veilShare(1), 1f / 3f).due("3 of 1", () -> d.house.meanLevel(1), 3.0).due("aside", () -> d.house.veilShare(3), 0f);
        d.say(2, "put t(3)", 1).say(0, "put t(4)", 1).due("levels 3, 1 and 0", () -> d.house.meanLevel(1), 4.0 / 3.0).due("at 0", () -> d.house.meanLevel(0), 0.0);
        d.begin(2, 2).say(2, "cut t", 2).due("its own moment", () -> d.house.veilShare(2), 2f / 4f).due("none", () -> d.house.meanLevel(2), ARITHMETIC);
        d.due("not ended", () -> d.house.veilShare(1), 1f / 5f).end(2, 2).due("ended", () -> d.house.veilShare(1), 2f / 5f).say(0, "cut t", 2);
        d.say(2, "put t(9)", 1).say(2, "cut t", 1).due("veils alone", () -> d.house.veilShare(2), 1f).due("aside", () -> d.house.veilShare(3), ARITHMETIC);
        d.say(0, "drop t", 1).due("dropped", () -> d.house.veilShare(2), ARITHMETIC);
    }

    /** The same, of the entries as a session with an open transaction has them. */
    private static void sharesInAMoment() {
        Desk d = new Desk("shares in a moment").enter(2, 16).enter(3, 48).begin(0, 0).begin(2, 0).say(1, "table t(a key)", 1).say(1, "put t(1)", 1).say(1, "put t(2)", 1);
        d.due("nothing yet", () -> d.house.veilShare(0), ARITHMETIC).due("nothing yet", () -> d.house.meanLevel(2), ARITHMETIC).due("two rows", () -> d.house.veilShare(1), 0f);
        d.say(0, "put t(3)", 1).due("one row", () -> d.house.veilShare(0), 0f).due("still nothing", () -> d.house.veilShare(2), ARITHMETIC).giveUp(2, 0).begin(2, 2);
        d.say(2, "cut t if a=1", 1).say(2, "put t(4)", 1).due("one veil of four", () -> d.house.veilShare(2), 1f / 4f).due("of levels 0 and 1", () -> d.house.meanLevel(2), 1.0 / 2.0);
        d.due("not ended", () -> d.house.veilShare(3), 0f).due("level 0", () -> d.house.meanLevel(3), 0.0).end(0, 1).due("one of four", () -> d.house.veilShare(2), 1f / 4f).end(2, 2);
        d.due("one of five", () -> d.house.veilShare(2), 1f / 5f).due("levels 0, 0 and 1", () -> d.house.meanLevel(3), 1.0 / 3.0).begin(1, 3).say(0, "cut t", 3);
        d.due("still rows", () -> d.house.veilShare(1), 0f).due("level 0", () -> d.house.meanLevel(1), 0.0).due("none", () -> d.house.veilShare(0), ARITHMETIC);
    }

    /** "An object is used for at most 512 calls": the last of them is answered as the first one. */
    private static void lastCall() {
        Desk d = new Desk("512 calls");
        d.say(0, "table n(a auto)", 1);
        for (int i = 1; i <= 101; i++) {
            d.write(0, "put n(next)").due("put " + i, () -> d.house.run(0), 1).write(0, "cut n").due("cut", () -> d.house.run(0), 1);
        }
        d.write(0, "put n(next)").due("put", () -> d.house.run(0), 1).due("sum", () -> d.house.checksum(0), sum(0, 'n', 0, 0, 64 * 102, 1));
    }

    public static void main(String[] args) {
        noSuchSession();
        eightSessions();
        signs();
        someSigns();
        fullText();
        erased();
        entered();
        notEntered();
        textTaken();
        reasons();
        answers();
        places();
        begun();
        ended();
        endRefused();
        givenUp();
        tablesTold();
        audits();
        pairsOfLabels();
        sums();
        sound();
        shares();
        sharesInAMoment();
        lastCall();
        Desk.close("FaceTest");
    }
}
