/** The promises one by one: ordinary inputs, the edges that the document names, and wrong inputs. */
public final class PromisesTest {
    private static final String INDEX = "IndexOutOfBoundsException";
    private static final String ARGUMENT = "IllegalArgumentException";
    private static final String STATE = "IllegalStateException";
    private static final String ELEMENT = "NoSuchElementException";
    private static final String UNSUPPORTED = "UnsupportedOperationException";
    private static final String ARITHMETIC = "ArithmeticException";

    private static void promise1() {
        Desk d = new Desk("promise 1");
        for (int i = 0; i < 8; i++) {
            int s = i;
            d.due("label", () -> d.house.label(s), 0).due("tables", () -> d.house.tables(s), 0)
                    .due("rows", () -> d.house.rows(s), 0).due("columns", () -> d.house.columns(s), 0)
                    .due("erase", () -> d.house.erase(s), 0).due("isOpen", () -> d.house.isOpen(s), false)
                    .due("reason", () -> d.house.reason(s), ELEMENT).seen(s, 0);
        }
    }

    private static void promise2() {
        Desk d = new Desk("promise 2");
        d.due("first", () -> d.house.type(7, ' '), 1).due("second", () -> d.house.type(7, '~'), 2);
        d.due("31", () -> d.house.type(7, (char) 31), ARGUMENT).due("127", () -> d.house.type(7, (char) 127), ARGUMENT);
        d.due("-1", () -> d.house.type(-1, (char) 31), INDEX).due("8", () -> d.house.type(8, 'a'), INDEX);
        for (int i = 3; i <= 120; i++) {
            d.due("sign " + i, () -> d.house.type(7, 'a'), i);
        }
        d.due("121", () -> d.house.type(7, 'a'), STATE).due("bad 121", () -> d.house.type(7, (char) 200), ARGUMENT);
        d.due("erase", () -> d.house.erase(7), 120);
    }

    private static Object more(Desk d, int s, int many, String signs) {
        char[] c = signs.toCharArray();
        return d.house.typeMore(s, many, c[0], c[1], c[2], c[3], c[4], c[5], c[6], c[7]);
    }

    private static void promise3() {
        Desk d = new Desk("promise 3");
        d.due("8", () -> more(d, 2, 8, "abcdefgh"), 8).due("1", () -> more(d, 2, 1, "a\n\n\n\n\n\n\n"), 9);
        d.due("bad", () -> more(d, 2, 2, "a\n\n\n\n\n\n\n"), ARGUMENT).due("0", () -> more(d, 2, 0, "abcdefgh"), ARGUMENT);
        d.due("9", () -> more(d, 2, 9, "abcdefgh"), ARGUMENT).due("8 of", () -> more(d, 8, 0, "abcdefgh"), INDEX);
        d.due("erase", () -> d.house.erase(2), 9);
        for (int i = 1; i < 15; i++) {
            d.due("more", () -> more(d, 2, 8, "        "), i * 8);
        }
        d.due("7", () -> more(d, 2, 7, "abcdefgh"), 119).due("over", () -> more(d, 2, 2, "abcdefgh"), STATE);
        d.due("bad over", () -> more(d, 2, 2, "\nbcdefgh"), ARGUMENT);
        d.due("120", () -> more(d, 2, 1, "abcdefgh"), 120);
        d.due("run", () -> d.house.run(2), -1 - 112).due("erased", () -> d.house.erase(2), 0);
    }

    private static void promise4() {
        Desk d = new Desk("promise 4");
        d.due("none", () -> d.house.erase(0), 0);
        d.house.type(0, 'x');
        d.due("one", () -> d.house.erase(0), 1).due("gone", () -> d.house.erase(0), 0).due("-1", () -> d.house.erase(-1), INDEX);
        d.due("run", () -> d.house.run(0), -1);
    }

    private static void promises5And6() {
        Desk d = new Desk("promise 5");
        d.say(0, "table t(a key)", 1).say(0, "put t(1)", 1).refused(0, "put t(1)", 'k').get(0, "get a from t", "1");
        d.begin(0, 1).say(0, "put t(2)", 1);
        d.house.type(0, 'x');
        d.due("enter", () -> d.house.enter(0, 0), 0).due("erase", () -> d.house.erase(0), 0);
        d.due("isOpen", () -> d.house.isOpen(0), false).due("reason", () -> d.house.reason(0), ELEMENT);
        d.due("rows", () -> d.house.rows(0), 0).due("columns", () -> d.house.columns(0), 0).seen(0, 1);
        d.due("enter 63", () -> d.house.enter(0, 63), 0).due("label", () -> d.house.label(0), 63);
        d.due("enter 64", () -> d.house.enter(0, 64), ARGUMENT).due("enter -1", () -> d.house.enter(0, -1), ARGUMENT);
        d.due("no session", () -> d.house.enter(8, 64), INDEX).due("still", () -> d.house.enter(0, 5), 63);
        d.due("label", () -> d.house.label(0), 5).due("other", () -> d.house.label(1), 0).due("8", () -> d.house.label(8), INDEX);
    }

    private static void promise8() {
        Desk d = new Desk("promise 8");
        d.due("none", () -> d.house.reason(3), ELEMENT).due("-1", () -> d.house.reason(-1), INDEX);
        d.say(3, "table t(a key)", 1).refused(3, "put t(none)", 'n').say(3, "put t(1)", 1).fault(3, "@oops");
        d.due("kept", () -> d.house.reason(3), 'n').refused(3, "put t(1)", 'k').due("else", () -> d.house.reason(2), ELEMENT);
    }

    private static void promises9To12() {
        Desk d = new Desk("promises 9 to 12");
        d.say(1, "table t(a key,b num,c num)", 1).say(1, "put t(1,none,-3)", 1).say(1, "put t(2,0,none)", 1);
        d.get(1, "get b,c,a from t", "- -3 1;0 - 2");
        d.due("rows", () -> d.house.rows(1), 2).due("columns", () -> d.house.columns(1), 3);
        d.due("rows 8", () -> d.house.rows(8), INDEX).due("columns -1", () -> d.house.columns(-1), INDEX);
        d.due("nothing", () -> d.house.cell(1, 0, 0), ELEMENT).due("-3", () -> d.house.cell(1, 0, 1), -3);
        d.due("not known", () -> d.house.isKnown(1, 0, 0), false).due("known", () -> d.house.isKnown(1, 1, 0), true);
        int[][] outside = {{2, 0}, {-1, 0}, {0, 3}, {0, -1}, {1 << 30, 1}};
        for (int[] place : outside) {
            d.due("isKnown outside", () -> d.house.isKnown(1, place[0], place[1]), INDEX);
            d.due("cell outside", () -> d.house.cell(1, place[0], place[1]), INDEX);
        }
        d.due("isKnown", () -> d.house.isKnown(9, 0, 0), INDEX).due("cell", () -> d.house.cell(-9, 0, 0), INDEX);
        d.fault(1, "get q@").fault(1, "get @q from t").say(1, "put t(3,3,3)", 1);
        d.due("kept", () -> d.answer(1), "- -3 1;0 - 2");
        d.get(1, "get a,b from t if 0", "").due("width", () -> d.house.columns(1), 2).due("rows", () -> d.house.rows(1), 0);
        d.due("no row", () -> d.house.cell(1, 0, 0), INDEX);
    }

    private static void promises13To16() {
        Desk d = new Desk("promises 13 to 16");
        d.say(0, "table t(a key,b num)", 1).say(0, "put t(1,1)", 1);
        d.end(0, STATE).giveUp(0, STATE).begin(-1, INDEX).end(8, INDEX).giveUp(8, INDEX);
        d.due("isOpen 8", () -> d.house.isOpen(8), INDEX);
        d.begin(0, 1).begin(0, STATE).due("isOpen", () -> d.house.isOpen(0), true).due("else", () -> d.house.isOpen(1), false);
        d.say(0, "put t(2,2)", 1).say(0, "set t b=b", 2).say(0, "cut t if a=2", 1).refused(0, "put t(1,1)", 'k');
        d.end(0, 2).due("isOpen", () -> d.house.isOpen(0), false).seen(0, 1).audit(0, 0, 'c', 1).audit(0, 0, 'd', 5).audit(0, 0, 'r', 1);
        d.begin(0, 1).say(0, "put t(3,3)", 1).giveUp(0, 1).seen(0, 1).audit(0, 0, 'c', 1);
        d.begin(0, 1).end(0, 0).audit(0, 0, 'c', 2);
    }

    private static void moments() {
        Desk d = new Desk("one moment");
        d.say(0, "table t(a key,b num)", 1).say(0, "put t(1,1)", 1).begin(1, 1).say(0, "put t(2,2)", 1).say(0, "set t b=9 if a=1", 1);
        d.get(1, "get all from t", "1 1").seen(1, 1).say(1, "put t(3,3)", 1).seen(1, 2).seen(0, 2);
        d.end(1, 1).get(1, "get all from t", "1 9;2 2;3 3");
        d.begin(1, 3).say(0, "table u(a key)", 2).due("new table", () -> d.house.tables(1), 2).say(0, "put u(1)", 1);
        d.get(1, "get all from u", "").say(1, "put u(2)", 1).say(0, "drop t", 1).fault(1, "get all from @t").seen(1, 1);
        d.end(1, 1).seen(1, 2);
    }

    private static void endsRefused() {
        Desk d = new Desk("ends refused");
        d.say(0, "table t(a key,b uniq)", 1).say(0, "put t(1,1)", 1);
        d.begin(1, 1).begin(2, 1).say(1, "set t b=5", 1).say(2, "set t b=6", 1).end(1, 1).endRefused(2, 'x');
        d.get(2, "get all from t", "1 5").audit(0, 0, 'r', 1).audit(0, 0, 'c', 1);
        d.begin(1, 1).begin(2, 1).say(1, "set t b=7", 1).say(2, "set t b=7", 1).giveUp(1, 1).end(2, 1);
        d.begin(1, 1).say(0, "put t(2,2)", 1).say(0, "cut t if a=2", 1).say(1, "put t(2,3)", 1).endRefused(1, 'x');
        d.begin(1, 1).begin(2, 1).say(1, "put t(2,8)", 1).say(2, "put t(3,8)", 1).end(1, 1).endRefused(2, 'u').seen(2, 2);
        d.begin(1, 2).begin(2, 2);
        for (int i = 0; i < 6; i++) {
            d.say(1, "put t(" + (10 + i) + ",none)", 1).say(2, "put t(" + (20 + i) + ",none)", 1);
        }
        d.end(1, 6).endRefused(2, 'f').seen(0, 8);
        d.begin(1, 8).say(1, "put t(77,77)", 1).say(0, "drop t", 1).say(0, "table t(a key,b uniq)", 1);
        d.say(1, "put t(77,77)", 1).endRefused(1, 'd').seen(1, 0);
        d.begin(1, 0).say(1, "put t(7,7)", 1).say(0, "drop t", 1).giveUp(1, 1);
    }

    private static void firstReasonAtEnd() {
        Desk d = new Desk("which reason at an end");
        d.say(0, "table t(a key)", 1).say(0, "table u(a key,b uniq)", 2).say(0, "table v(a key)", 3);
        d.begin(1, 0).say(1, "put v(1)", 1).say(1, "put u(1,1)", 1).say(1, "put t(1)", 1);
        for (int i = 1; i <= 12; i++) {
            d.say(0, "put t(" + (i + 1) + ")", 1);
        }
        d.say(0, "put u(2,1)", 1).begin(2, 13).say(2, "put u(3,4)", 1).end(2, 1).endRefused(1, 'f');
        d.begin(1, 14).say(1, "put u(9,1)", "UnsupportedOperationException").say(1, "put u(9,9)", 1).say(0, "put u(9,8)", 1);
        d.say(1, "put v(1)", 1).say(0, "drop v", 1).endRefused(1, 'd');
    }

    private static void promises17And18() {
        Desk d = new Desk("promises 17 and 18");
        d.say(0, "table t(a key)", 1).enter(1, 17).enter(2, 16).enter(3, 2).say(1, "table t(a key)", 1).say(1, "table u(a key)", 2);
        d.due("at 0", () -> d.house.tables(0), 1).due("at 17", () -> d.house.tables(1), 3).due("at 16", () -> d.house.tables(2), 1);
        d.due("at 2", () -> d.house.tables(3), 1).due("tables 8", () -> d.house.tables(8), INDEX).seen(-1, INDEX);
        d.say(0, "put t(1)", 1).say(1, "put t(1)", 1).seen(1, 2).seen(0, 1).seen(2, 1);
    }

    private static void promise19() {
        Desk d = new Desk("promise 19");
        d.enter(1, 17).enter(2, 18);
        d.say(1, "table t(a key)", 1).refused(1, "table t(a key)", 't').fault(1, "table @").fault(1, "@").get(1, "get all from t", "");
        d.audit(1, 17, 'd', 2).audit(1, 17, 'r', 1).audit(1, 17, 'f', 2).audit(1, 17, 'c', 0).audit(1, 0, 'd', 0);
        d.audit(0, 17, 'd', UNSUPPORTED).audit(2, 17, 'd', UNSUPPORTED).audit(2, 19, 'd', UNSUPPORTED).audit(1, 64, 'd', ARGUMENT);
        d.audit(1, -1, 'd', ARGUMENT).audit(1, 0, 'x', ARGUMENT).audit(0, 63, 'x', ARGUMENT).audit(8, 64, 'x', INDEX);
        d.enter(1, 63).audit(1, 17, 'f', 2).audit(1, 63, 'f', 0);
    }

    private static void promises20And21() {
        Desk d = new Desk("promises 20 and 21");
        for (int i = 0; i < 64; i++) {
            d.anew();
            for (int k = 0; k < 64; k++) {
                int a = i;
                int b = k;
                boolean isBelow = b / 16 <= a / 16;
                int marks = 0;
                for (int bit = 1; bit < 16; bit *= 2) {
                    boolean inA = a / bit % 2 == 1;
                    boolean inB = b / bit % 2 == 1;
                    isBelow = isBelow && (inA || !inB);
                    marks += inA || inB ? bit : 0;
                }
                d.due("isAbove " + a + " " + b, () -> d.house.isAbove(a, b), isBelow);
                d.due("joined " + a + " " + b, () -> d.house.joined(a, b), 16 * Math.max(a / 16, b / 16) + marks);
            }
        }
        for (int bad : new int[] {-1, 64, Integer.MIN_VALUE, Integer.MAX_VALUE}) {
            d.due("isAbove", () -> d.house.isAbove(bad, 0), ARGUMENT).due("isAbove", () -> d.house.isAbove(0, bad), ARGUMENT);
            d.due("joined", () -> d.house.joined(bad, 0), ARGUMENT).due("joined", () -> d.house.joined(0, bad), ARGUMENT);
        }
    }

    private static long sum(long... parts) {
        long s = 7;
        for (long p : parts) {
            s = 31 * s + p;
        }
        return s;
    }

    private static void promise22() {
        Desk d = new Desk("promise 22");
        d.due("8", () -> d.house.checksum(8), INDEX).due("empty", () -> d.house.checksum(0), sum(0, 0));
        d.enter(1, 16).enter(2, 1).say(0, "table b(a key,c num)", 1).say(0, "table ab(a key)", 2).say(0, "table b", -8);
        d.say(1, "table b(x key)", 1).say(2, "table a(x key)", 1).say(0, "put b(5,none)", 1).say(0, "put b(-4,6)", 1);
        d.due("at 0", () -> d.house.checksum(0), sum(0, 'a', 'b', 0, 'b', 0, 0, -4, 6, 0, 5, -1000000000L, 2));
        d.say(1, "put b(8)", 1).say(2, "set b c=7 if a=5", 1).say(2, "cut b if a=-4", 1);
        d.due("at 16", () -> d.house.checksum(1),
                sum(16, 'a', 'b', 0, 'b', 0, 0, -4, 6, 0, 5, -1000000000L, 'b', 16, 16, 8, 3));
        d.house.type(2, '#');
        d.due("at 1", () -> d.house.checksum(2), sum(1, 'a', 1, 'a', 'b', 0, 'b', 0, 1, 5, 7, 4, '#'));
        d.enter(3, 17).due("at 17", () -> d.house.checksum(3),
                sum(17, 'a', 1, 'a', 'b', 0, 'b', 0, 1, 5, 7, 'b', 16, 16, 8, 5));
        d.begin(3, 2).say(0, "put b(1,1)", 1).due("in its moment", () -> d.house.checksum(3),
                sum(17, 'a', 1, 'a', 'b', 0, 'b', 0, 1, 5, 7, 'b', 16, 16, 8, 5));
    }

    private static void promise23() {
        Desk d = new Desk("promise 23");
        d.due("new", () -> d.house.isSound(), true).say(0, "table t(a key)", 1).say(0, "table u(a key,b ref t)", 2);
        d.say(0, "put t(1)", 1).say(0, "put u(1,1)", 1).say(0, "cut t", 1).due("unmet", () -> d.house.isSound(), true).seen(0, 0);
        d.begin(0, 0).say(0, "put t(1)", 1).due("open", () -> d.house.isSound(), true).seen(0, 2);
    }

    private static void promises24And25() {
        Desk d = new Desk("promises 24 and 25");
        d.enter(1, 32).enter(2, 16).due("none", () -> d.house.veilShare(0), ARITHMETIC).due("none", () -> d.house.meanLevel(0), ARITHMETIC);
        d.due("8", () -> d.house.veilShare(8), INDEX).due("-1", () -> d.house.meanLevel(-1), INDEX);
        d.say(0, "table t(a key)", 1).say(0, "put t(1)", 1).say(0, "put t(2)", 1).say(1, "cut t if a=1", 1).say(1, "put t(3)", 1);
        d.due("at 32", () -> d.house.veilShare(1), 1f / 4f).due("at 0", () -> d.house.veilShare(0), 0f);
        d.due("mean at 32", () -> d.house.meanLevel(1), 1.0).due("mean at 0", () -> d.house.meanLevel(0), 0.0);
        d.say(2, "put t(9)", 1).due("mean at 32", () -> d.house.meanLevel(1), 3.0 / 3.0).say(1, "cut t", 3);
        d.due("all veiled", () -> d.house.veilShare(1), 3f / 6f).due("none seen", () -> d.house.meanLevel(1), ARITHMETIC);
        d.say(2, "put t(4)", 1).due("mean at 16", () -> d.house.meanLevel(2), 2.0 / 4.0);
    }

    public static void main(String[] args) {
        promise1();
        promise2();
        promise3();
        promise4();
        promises5And6();
        promise8();
        promises9To12();
        promises13To16();
        moments();
        endsRefused();
        firstReasonAtEnd();
        promises17And18();
        promise19();
        promises20And21();
        promise22();
        promise23();
        promises24And25();
        Desk.close("PromisesTest");
    }
}
