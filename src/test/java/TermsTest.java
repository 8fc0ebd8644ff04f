/** The sentences of the terms, ahead of their parts and in the parts 1 to 3, that name an edge or a refused call. */
public final class TermsTest {
    private static Desk house(String title) {
        return new Desk(title);
    }

    private static long sumOf(long... parts) {
        long s = 7;
        for (long p : parts) {
            s = 31 * s + p;
        }
        return s;
    }

    private static Desk fill(Desk d, int session, String table, int from, int to) {
        for (int i = from; i <= to; i++) {
            d.say(session, "put " + table + "(" + i + ")", 1);
        }
        return d;
    }

    /** "What a session is told .. hangs on nothing but what was called for sessions .. at or below": the limits. */
    private static void limitsOfOthers() {
        Desk d = house("limits of others").enter(1, 17).enter(2, 18).enter(3, 63);
        d.say(0, "table t(a key,b uniq)", 1).say(3, "table s(a key)", 1).say(3, "table u(a key)", 2).say(3, "table t(a key)", 3);
        d.say(2, "table s(a key)", 1).say(2, "table u(a key)", 2).say(2, "table v(a key)", 3).refused(2, "table w(a key)", 't');
        d.say(1, "table s(a key)", 1).say(1, "table u(a key)", 2).say(1, "table w(a key)", 3).refused(1, "table v(a key)", 't');
        d.due("tables at 17", () -> d.house.tables(1), 4).due("at 63", () -> d.house.tables(3), 10);
        for (int i = 1; i <= 12; i++) {
            d.say(2, "put t(" + i + "," + i + ")", 1).say(1, "put t(" + i + "," + i + ")", 1);
        }
        d.refused(1, "put t(13,13)", 'f').refused(2, "put t(13,13)", 'f').say(0, "put t(13,1)", 1).say(0, "put t(1,13)", 1);
        d.seen(0, 2).seen(1, 13).seen(2, 13).seen(3, 25).get(0, "get all from t", "1 13;13 1");
    }

    /** The same: keys, counts, reasons and refusals. */
    private static void deedsOfOthers() {
        Desk d = house("deeds of others").enter(1, 17).enter(2, 18).enter(3, 49);
        d.say(0, "table n(a auto,b uniq)", 1);
        for (int i = 1; i <= 4; i++) {
            d.say(3, "put n(next,5)", i == 1 ? (Object) 1 : "UnsupportedOperationException").say(2, "put n(next," + i + ")", 1);
        }
        d.say(1, "put n(next,5)", 1).say(0, "put n(next,5)", 1).get(1, "get label,a from n", "0 64;17 81").get(0, "get a from n", "64");
        d.get(3, "get a from n if label=49", "113").get(2, "get most(a) from n", "274");
        d.fault(2, "").fault(3, "").fault(3, "").begin(3, 3).end(3, 0);
        d.audit(1, 17, 'd', 2).audit(1, 17, 'r', 0).audit(1, 17, 'f', 0).audit(1, 17, 'c', 0).audit(1, 0, 'd', 3).audit(1, 0, 'f', 0);
        d.audit(1, 49, 'f', "UnsupportedOperationException").due("no reason", () -> d.house.reason(1), "NoSuchElementException");
        d.say(2, "put n(next,9)", 1).due("entries", () -> d.house.veilShare(1), 0f).say(3, "cut n", 3).due("veils above", () -> d.house.veilShare(1), 0f);
        d.begin(1, 2).say(3, "put n(next,77)", 1).say(2, "set n b=none", 6).say(1, "set n b=none", 2).end(1, 2).audit(1, 17, 'c', 1);
    }

    /** "and on the rows that the statement lower brought down to such labels" */
    private static void rowsBroughtDown() {
        Desk d = house("rows brought down").enter(1, 16).enter(2, 32);
        d.say(0, "table t(a key,b uniq)", 1).say(2, "put t(1,5)", 1).say(2, "put t(2,6)", 1).say(0, "put t(3,5)", 1).begin(1, 1).begin(0, 1);
        d.say(2, "lower t 1 to 16", 1).say(2, "lower t 2 to 0", 1).seen(1, 1).seen(0, 1).say(1, "put t(1,8)", 1).endRefused(1, 'x').seen(1, 3);
        d.say(0, "put t(2,8)", 1).endRefused(0, 'x').seen(0, 2).refused(0, "put t(2,9)", 'k').refused(0, "put t(4,6)", 'u').get(1, "get all from t", "1 5;2 6;3 5");
        d.audit(2, 0, 'd', 3).audit(2, 0, 'r', 3).audit(2, 16, 'r', 1).audit(2, 32, 'd', 4);
    }

    /** "but enter()": what a session did at another label is not told at this one. */
    private static void cameFromAbove() {
        Desk d = house("came from above").enter(0, 63);
        d.say(0, "table t(a key)", 1).refused(0, "put t(none)", 'n').say(0, "put t(1)", 1).say(0, "get all from t", 1).begin(0, 1).say(0, "put t(2)", 1).write(0, "abc");
        d.enter(0, 0).due("as new", d::picture, new Desk("new").picture()).fault(0, "get all from @t").due("reason", () -> d.house.reason(0), "NoSuchElementException");
        d.audit(0, 0, 'd', 0).audit(0, 0, 'r', 0).audit(0, 0, 'f', 1).enter(0, 63).seen(0, 1).audit(0, 63, 'c', 0).audit(0, 63, 'd', 4);
    }

    /** "Each transaction sees one moment, but for tables that come to be or are dropped, and what it changed itself" */
    private static void oneMoment() {
        Desk d = house("one moment").enter(1, 16).enter(2, 48);
        d.say(0, "table t(a key,b num)", 1).say(0, "table u(a key,b ref t)", 2).say(0, "put t(1,1)", 1).say(0, "put t(2,2)", 1).say(0, "put u(1,1)", 1);
        d.say(2, "put t(8,8)", 1).say(2, "put t(2,9)", 1).begin(1, 3).say(0, "put t(3,3)", 1).say(0, "set t b=7 if a=2", 1).say(0, "cut t if a=1", 1);
        d.say(2, "lower t 8 to 16", 1).say(2, "lower t 2 to 16", 1).seen(1, 3).get(1, "get each label,a,b from t", "0 1 1;0 2 2").get(1, "get all from u", "1 1");
        d.due("veils", () -> d.house.veilShare(1), 0f).due("levels", () -> d.house.meanLevel(1), 0.0).say(1, "put u(2,1)", 1).refused(1, "put u(3,3)", 'r');
        d.say(1, "put t(9,9)", 1).get(1, "get a from t", "1;2;9").seen(1, 5).seen(0, 2).end(1, 2).get(1, "get all from t", "2 9;3 3;8 8;9 9").get(1, "get a from u", "");
        d.get(1, "get each all from u", "1 1;2 1").due("sound", () -> d.house.isSound(), true);
    }

    /** "but for tables that come to be or are dropped" */
    private static void tablesInAMoment() {
        Desk d = house("tables in a moment").enter(1, 16).say(0, "table t(a key)", 1).say(0, "table u(a key,b ref t)", 2).say(0, "put t(1)", 1).say(0, "put u(1,1)", 1);
        d.begin(1, 2).say(0, "table v(a key)", 3).say(0, "put v(1)", 1).due("three", () -> d.house.tables(1), 3).get(1, "get all from v", "").seen(1, 2);
        d.say(1, "put v(2)", 1).seen(1, 3).say(0, "drop t", 1).seen(1, 1).fault(1, "get all from @t").get(1, "get each all from u", "1 1").say(0, "table t(a key)", 3);
        d.get(1, "get all from t", "").get(1, "get all from u", "").say(1, "put t(1)", 1).get(1, "get all from u", "").refused(1, "put u(2,1)", 'r').end(1, 2);
        d.seen(1, 3).seen(0, 1).due("sound", () -> d.house.isSound(), true);
    }

    /** The same, of each session that has a transaction open as a table is dropped. */
    private static void droppedInMoments() {
        for (int dropper : new int[] {0, 4, 7}) {
            Desk d = house("dropped in moments").say(dropper, "table t(a key)", 1).say(dropper, "table u(a key)", 2).say(dropper, "put t(1)", 1).say(dropper, "put u(1)", 1);
            for (int s = 0; s < 8; s++) {
                d.begin(s, 2);
            }
            d.giveUp(dropper, 0).say(dropper, "drop t", 1);
            for (int i = 0; i < 8; i++) {
                int s = i;
                d.seen(i, 1).due("entries", () -> d.house.veilShare(s), 0f).due("tables", () -> d.house.tables(s), 1).fault(i, "get all from @t").get(i, "get each a from u", "1");
                d.due("sum", () -> d.house.checksum(s), sumOf(0, 'u', 0, 0, 1, 1));
            }
        }
    }

    /** "of two that change the same key of a table at one label, are open at a time, and are both ended, the one .. last" */
    private static void twoOfOneKey() {
        Desk d = house("two of one key").enter(1, 5).enter(2, 5).enter(3, 21).say(1, "table t(a key,b num)", 1).say(1, "table u(a key,b num)", 2);
        d.begin(1, 0).begin(2, 0).say(1, "put t(1,1)", 1).say(2, "put t(1,2)", 1).say(2, "put t(2,2)", 1).end(2, 2).endRefused(1, 'x').get(1, "get all from t", "1 2;2 2");
        d.begin(1, 2).begin(2, 2).say(1, "set t b=3 if a=1", 1).say(2, "set t b=3 if a=2", 1).say(2, "put u(1,1)", 1).end(1, 1).end(2, 2);
        d.begin(1, 3).begin(3, 3).say(1, "set t b=4", 2).say(3, "set t b=5", 2).end(1, 2).end(3, 2).get(3, "get b from t", "5;5").get(1, "get b from t", "4;4");
        d.begin(1, 3).begin(2, 3).say(1, "set t b=6", 2).say(2, "set t b=7", 2).giveUp(1, 2).end(2, 2).get(1, "get b from t", "7;7");
        d.begin(1, 3).say(1, "cut t if a=1", 1).end(1, 1).begin(2, 2).say(2, "put t(1,9)", 1).end(2, 1);
        d.begin(1, 3).begin(2, 3).say(1, "cut t if a=1", 1).say(1, "put t(1,9)", 1).say(2, "set t b=b if a=1", 1).end(1, 1).endRefused(2, 'x');
    }

    /** "if the first one was not [refused]": then the last one may end well. */
    private static void firstOneRefused() {
        Desk d = house("first one refused").say(0, "table t(a key,b uniq)", 1).say(0, "put t(1,1)", 1).begin(1, 1).begin(2, 1);
        d.say(1, "put t(2,5)", 1).say(1, "set t b=2 if a=1", 1).say(2, "put t(2,6)", 1).say(0, "set t b=3 if a=1", 1).endRefused(1, 'x').end(2, 1).get(0, "get all from t", "1 3;2 6");
        d.begin(1, 2).begin(2, 2).say(1, "put t(4,9)", 1).say(2, "put t(4,8)", 1).say(0, "put t(5,9)", 1).endRefused(1, 'u').end(2, 1).get(0, "get all from t", "1 3;2 6;4 8;5 9");
    }

    /** "A statement that is refused .. changes nothing but counts, the text, and the reason that is told." */
    private static void refusedWhole() {
        Desk d = house("refused").enter(1, 16).say(0, "table t(a key,b uniq,c num) if c<9", 1).say(0, "put t(1,1,1)", 1).get(0, "get all from t", "1 1 1");
        d.refusedWhole(0, "put t(none,2,2)", 'n').refusedWhole(0, "put t(1,2,2)", 'k').refusedWhole(0, "put t(2,1,2)", 'u').refusedWhole(0, "put t(2,2,9)", 'c');
        d.audit(0, 0, 'r', 4).audit(0, 0, 'd', 3).audit(0, 0, 'f', 0);
        Desk e = house("refused").enter(1, 16).say(0, "table t(a key,b num)", 1).say(0, "table u(a auto,b ref t)", 2).say(1, "put t(1,1)", 1).get(1, "get a from t", "1");
        e.refusedWhole(0, "put u(next,5)", 'r').refusedWhole(0, "table u(a key)", 't').refusedWhole(1, "drop t", 't').refusedWhole(1, "lower t 1 to 99", 'l');
        e.say(0, "put u(next,none)", 1).get(0, "get all from u", "64 -").begin(0, 1).say(0, "put t(2,2)", 1).refusedWhole(0, "drop t", 't').end(0, 1);
        Desk f = fill(house("refused").enter(1, 16).enter(2, 17).say(0, "table t(a key)", 1), 0, "t", 1, 12).get(0, "get a from t top 1", "1");
        f.refusedWhole(0, "put t(13)", 'f').say(1, "put t(13)", 1).refusedWhole(2, "cut t", 'f').refusedWhole(1, "lower t 13 to 0", 'f');
        Desk g = house("refused").enter(1, 16).say(0, "table t(a key,b num)", 1).get(0, "get a,b from t", "").get(1, "get a from t", "");
        for (int i = 1; i <= 12; i++) {
            g.say(0, "put t(" + i + ",1)", 1);
        }
        g.say(1, "put t(13,1)", 1).refusedWhole(1, "get a from t join t on b=b", 'm').say(0, "get a from t join t on b=b", 144);
    }

    /** "or has a fault": of each statement, in a transaction and outside of one. */
    private static void faultsWhole() {
        String[] faults = {"get all from t @$", "table v(a key) if @b", "drop @zz", "put t(1,2,@3)", "set t @a=5", "cut t if @q", "lower t 1 to @a", "put u(next@)"};
        for (int i = 0; i < faults.length; i += 2) {
            Desk d = house("faults").enter(1, 16).say(0, "table t(a key,b num)", 1).say(0, "table u(a auto,b num)", 2).say(0, "put t(1,1)", 1).refused(0, "put t(1,1)", 'k');
            d.get(0, "get all from t", "1 1").faultWhole(0, faults[i]).begin(0, 1).say(0, "put t(2,2)", 1).faultWhole(0, faults[i + 1]).audit(0, 0, 'f', 2);
            d.say(0, "put u(next,1)", 1).get(0, "get a from u", "64").end(0, 2);
        }
    }

    /** "A label is at or below another one if its level is not above that one's, and all of its marks are in that one's set" */
    private static void whoSeesWhat() {
        int[] labels = {0, 1, 2, 3, 16, 17, 18, 32, 33, 47, 48, 63};
        for (int at : labels) {
            Desk d = house("seen from " + at).enter(1, at).say(0, "table t(a key)", 1);
            int below = 0;
            for (int label : labels) {
                d.enter(2, label).say(2, "put t(" + label + ")", 1);
                below += label / 16 <= at / 16 && (label % 16 & at % 16) == label % 16 ? 1 : 0;
            }
            d.seen(1, below).say(1, "get each all from t", below);
        }
    }

    /** "1 to 5 columns with names that are unlike, the first one being the key" */
    private static void columnsOfTables() {
        Desk d = house("columns").fault(0, "table t(@)").say(0, "table t(a key)", 1).say(0, "table u(a key,b num,c num,d num,e num)", 2);
        d.fault(0, "table v(a key,b num,c num,d num,e num,@f num)").fault(0, "table v(a key,b num,c num,d num,e num,@a num)").fault(0, "table v(a key,@a num)");
        d.fault(0, "table v(a key,b num,c num,d num,e num,@f num,g num)").fault(0, "table v(a key,b num,c num,d num,@b num,f num)").fault(0, "table v(a @num)");
        d.say(0, "put t(1)", 1).say(0, "put u(1,2,3,4,5)", 1).get(0, "get all from u", "1 2 3 4 5").get(0, "get all from t", "1").get(0, "get e,a from u", "5 1");
        d.say(0, "table v(a key,b num)", 3).due("tables", () -> d.house.tables(0), 3);
    }

    /** "there are at most 3 tables of a label, and not two of one name and label" */
    private static void threeTables() {
        Desk d = house("three tables").enter(1, 16).enter(2, 0).say(0, "table t(a key)", 1).refused(2, "table t(b key)", 't').say(2, "table u(a key)", 2).say(0, "table v(a key)", 3);
        d.refused(0, "table w(a key)", 't').refused(0, "table t(a key)", 't').say(1, "table t(a key)", 1).say(1, "table w(a key)", 2).say(1, "table u(a key)", 3);
        d.refused(1, "table v(a key)", 't').say(0, "drop u", 1).say(0, "table w(a key)", 3).refused(0, "table u(a key)", 't').due("tables", () -> d.house.tables(1), 6);
        d.say(0, "drop w", 1).say(0, "drop t", 1).say(0, "table t(a key)", 2).fault(0, "drop @w").say(0, "drop v", 1).say(0, "drop t", 1).say(0, "table x(a key)", 1);
    }

    /** "What a cell holds is a number from -999999999 to 999999999, or nothing; a key always a number." */
    private static void cells() {
        Desk d = house("cells").say(0, "table t(a key,b num,c uniq)", 1).say(0, "put t(999999999,-999999999,999999999)", 1).say(0, "put t(-999999999,999999999,none)", 1);
        d.get(0, "get all from t", "-999999999 999999999 -;999999999 -999999999 999999999").say(0, "put t(0,999999999+1,-999999999-1)", 1).get(0, "get b,c from t if a=0", "- -");
        d.refused(0, "put t(none,1,1)", 'n').refused(0, "put t(999999999+1,1,1)", 'n').refused(0, "put t(-999999999-1,1,1)", 'n').refused(0, "put t(1%0,1,1)", 'n');
        d.say(0, "put t(999999998,999999998+1,1-999999999)", 1).get(0, "get b,c from t if a=999999998", "999999999 -999999998").say(0, "set t b=b+b,c=none", 4);
        d.get(0, "get b,c from t if known b|known c", "").seen(0, 4);
    }

    /** "there is at most one at a time" of a table, a key and a label, "and at most 12 entries of a table and a label" */
    private static void twelveEntries() {
        Desk d = house("twelve entries").enter(1, 1).say(0, "table t(a key)", 1).say(0, "table u(a key)", 2);
        fill(d, 0, "t", 1, 12).refused(0, "put t(13)", 'f').refused(0, "put t(12)", 'k').say(0, "put u(13)", 1).say(1, "put t(13)", 1);
        fill(d, 1, "t", 1, 11).refused(1, "put t(12)", 'f').say(1, "cut t if a<12", 11).seen(1, 3).refused(1, "cut t if a=12", 'f').say(1, "cut t if a=13", 1);
        d.due("11 veils of 24", () -> d.house.veilShare(1), 11f / 24f).say(1, "cut t", 1).due("12 veils", () -> d.house.veilShare(1), 12f / 25f);
        d.refused(1, "put t(14)", 'f').say(1, "put t(12)", 1).say(1, "put t(1)", 1).seen(1, 3).due("10 veils", () -> d.house.veilShare(1), 10f / 25f);
        d.say(0, "cut t if a=12", 1).say(0, "put t(13)", 1).refused(0, "put t(14)", 'f').say(0, "cut t", 12).fault(0, "put t(@a)").say(0, "put t(14)", 1);
    }

    /** "of the tables of that name at or below that label, with none of them above it, the one whose label is the greatest number" */
    private static void tableOfAName() {
        Desk d = house("table of a name").enter(1, 1).enter(2, 14).enter(3, 16).enter(4, 31).enter(5, 17).enter(6, 15).enter(7, 32);
        d.say(1, "table t(b key)", 1).fault(0, "get all from @t").fault(2, "put @t(1)").fault(3, "cut @t").say(5, "put t(1)", 1).get(4, "get b from t", "1");
        d.say(2, "table t(c key)", 1).get(6, "get c from t", "").get(5, "get b from t", "1").get(1, "get b from t", "").get(4, "get c from t", "");
        d.say(3, "table t(d key)", 1).get(4, "get d from t", "").get(6, "get c from t", "").get(5, "get d from t", "").get(7, "get d from t", "").get(1, "get b from t", "");
        d.say(0, "table t(e key)", 1).get(0, "get e from t", "").get(1, "get b from t", "").get(3, "get d from t", "").say(3, "drop t", 1).get(3, "get e from t", "").get(7, "get e from t", "");
        d.get(5, "get b from t", "1").get(4, "get c from t", "").say(2, "drop t", 1).get(4, "get b from t", "1").refused(4, "drop t", 't').say(1, "drop t", 1).get(4, "get e from t", "");
    }

    /** "a label, at or above that of the table": a session that is not there has no such table. */
    private static void entriesAboveTheirTable() {
        Desk d = house("entries above their table").enter(1, 18).enter(2, 16).enter(3, 2).enter(4, 31).say(1, "table t(a key)", 1).say(1, "put t(1)", 1).say(4, "put t(2)", 1);
        d.fault(2, "put @t(1)").fault(3, "put @t(1)").fault(0, "put @t(1)").refused(4, "lower t 2 to 16", 'l').refused(4, "lower t 2 to 2", 'l').refused(4, "lower t 2 to 17", 'l');
        d.say(4, "lower t 2 to 18", 1).say(4, "lower t 2 to 19", 1).seen(1, 2).refused(4, "lower t 2 to 34", 'l').refused(1, "lower t 1 to 0", 'l');
    }

    /** "of the entries of one key at or below the label those that have none of these above them" */
    private static void chosen() {
        Desk d = house("chosen").enter(1, 1).enter(2, 2).enter(3, 3).enter(4, 16).enter(5, 17).enter(6, 63).say(0, "table t(a key,b num)", 1);
        d.say(0, "put t(1,0)", 1).say(1, "put t(1,1)", 1).say(4, "put t(1,16)", 1).get(5, "get label from t", "1;16").get(6, "get label from t", "1;16").get(2, "get b from t", "0");
        d.say(2, "put t(1,2)", 1).get(6, "get b from t", "1;2;16").get(3, "get b from t", "1;2").say(5, "put t(1,17)", 1).get(6, "get b from t", "2;17").get(5, "get b from t", "17");
        d.say(3, "put t(1,3)", 1).get(6, "get b from t", "3;17").seen(6, 2).say(1, "cut t", 1).get(6, "get b from t", "3;17").get(1, "get b from t", "").get(5, "get b from t", "17");
        d.say(5, "cut t", 1).get(5, "get b from t", "").get(6, "get b from t", "3").say(3, "cut t", 1).get(6, "get b from t", "").get(4, "get b from t", "16").get(0, "get b from t", "0");
        d.say(6, "put t(2,9)", 1).seen(6, 1).seen(5, 0).say(4, "put t(2,8)", 1).get(6, "get b from t", "9").get(5, "get b from t", "8").get(6, "get each b from t if a=2", "8;9");
    }

    /** "such a cell of a row is met if it holds nothing, or if a row of that table with this key is seen by the label" */
    private static void met() {
        Desk d = house("met").enter(1, 16).enter(2, 17).enter(3, 1).say(0, "table t(a key,b num)", 1).say(0, "table u(a key,b ref t,c ref t)", 2).say(1, "put t(1,1)", 1);
        d.refused(0, "put u(1,1,none)", 'r').refused(0, "put u(1,none,1)", 'r').say(0, "put u(1,none,none)", 1).say(1, "put u(2,1,1)", 1).say(3, "put t(2,2)", 1);
        d.refused(1, "put u(3,1,2)", 'r').refused(3, "put u(3,1,2)", 'r').say(2, "put u(3,1,2)", 1).seen(2, 5).seen(1, 3).seen(3, 2).say(2, "cut t if a=2", 1).seen(2, 3);
        d.get(2, "get a from u", "1;2").get(2, "get each a from u", "1;2;3").say(2, "put t(2,9)", 1).get(2, "get a from u", "1;2;3").say(3, "put t(1,1)", 1).get(2, "get a,label from t", "1 1;1 16;2 17");
        d.say(1, "cut t", 1).get(2, "get a,label from t", "1 1;2 17").get(2, "get a from u", "1;2;3").get(1, "get a from u", "1").say(2, "cut u if b=1", 2).get(2, "get a from u", "1");
    }

    /** "as many of them as can be, so that in each one that is left all cells that refer are met": rows go one behind the other. */
    private static void chains() {
        Desk d = house("chains").enter(1, 16).say(0, "table t(a key)", 1).say(0, "table u(a key,b ref t)", 2).say(0, "table v(a key,b ref u)", 3).say(1, "table w(a key,b ref v,c ref t)", 1);
        for (int i = 1; i <= 3; i++) {
            d.say(0, "put t(" + i + ")", 1).say(0, "put u(" + i + "," + i + ")", 1).say(0, "put v(" + i + "," + i + ")", 1);
        }
        d.say(1, "put w(1,1,3)", 1).say(1, "put w(2,2,2)", 1).say(1, "put w(3,3,1)", 1);
        d.seen(1, 12).say(1, "cut t if a=1", 1).seen(1, 12 - 5).get(1, "get a from w", "2").get(1, "get a from v", "2;3").seen(0, 9);
        d.refused(1, "put v(9,1)", 'r').say(1, "cut v if a=1", 0).say(1, "set w c=2", 1).get(1, "get all from w", "2 2 2").say(1, "put t(1)", 1).get(1, "get all from w", "1 1 3;2 2 2;3 3 1");
        d.say(0, "cut t if a=2", 1).seen(0, 6).seen(1, 12 - 4).get(1, "get a from w", "1;3").due("sound", () -> d.house.isSound(), true);
    }

    /** "A table that was dropped has no rows", "as it was when its own table came to be" */
    private static void droppedReference() {
        Desk d = house("dropped reference").enter(1, 16).say(0, "table t(a key)", 1).say(1, "table u(a key,b ref t)", 1).say(0, "put t(1)", 1).say(1, "put u(1,1)", 1).say(1, "put u(2,none)", 1);
        d.say(1, "table t(a key)", 2).say(1, "put t(5)", 1).refused(1, "put u(3,5)", 'r').say(1, "put u(3,1)", 1).get(1, "get a from u", "1;2;3").say(1, "table v(a key,b ref t)", 3);
        d.refused(1, "put v(1,1)", 'r').say(1, "put v(1,5)", 1).say(0, "drop t", 1).get(1, "get a from u", "2").get(1, "get a from v", "1").say(0, "table t(a key)", 1).say(0, "put t(1)", 1);
        d.get(1, "get a from u", "2").refused(1, "put u(4,1)", 'r').get(1, "get each a from u", "1;2;3").say(1, "drop t", 1).get(1, "get a from v", "").seen(1, 2).due("sound", () -> d.house.isSound(), true);
    }

    public static void main(String[] args) {
        limitsOfOthers();
        deedsOfOthers();
        rowsBroughtDown();
        cameFromAbove();
        oneMoment();
        tablesInAMoment();
        droppedInMoments();
        twoOfOneKey();
        firstOneRefused();
        refusedWhole();
        faultsWhole();
        whoSeesWhat();
        columnsOfTables();
        threeTables();
        cells();
        twelveEntries();
        tableOfAName();
        entriesAboveTheirTable();
        chosen();
        met();
        chains();
        droppedReference();
        Desk.close("TermsTest");
    }
}
