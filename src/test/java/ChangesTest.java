/** The sentences of the parts 6 to 8 that name an edge, a fault or a refusal: changes, transactions, counts. */
public final class ChangesTest {
    private static final String UNSUPPORTED = "UnsupportedOperationException";

    /** Puts rows of a key and one more cell. */
    private static Desk rows(Desk d, int session, String table, int from, int to, String cell) {
        for (int i = from; i <= to; i++) {
            d.say(session, "put " + table + "(" + i + "," + cell + ")", 1);
        }
        return d;
    }

    /** "the first kind is key or auto, each other one num, uniq, or ref", "one of these kinds where it cannot be" */
    private static void kinds() {
        for (String kind : new String[] {"num", "uniq", "ref zz"}) {
            new Desk("kinds").fault(0, "table t(a @" + kind + ")").fault(0, "table t(a @" + kind + ",a key)").fault(0, "table t(a @" + kind + ",b ref yy) if q");
        }
        for (String kind : new String[] {"key", "auto"}) {
            Desk d = new Desk("kinds").fault(0, "table t(a key,b @" + kind + ")").fault(0, "table t(a auto,b num,c @" + kind + ",a num)").fault(0, "table t(a key,@a " + kind + ")");
            d.fault(0, "table t(a " + kind + ",b @" + kind + ",b num)").say(0, "table t(a " + kind + ",b num,c uniq,d num,e uniq)", 1).say(0, "table u(a " + kind + ",b ref t)", 2);
        }
        new Desk("kinds").fault(0, "table t(a@)").fault(0, "table t(a key@;").fault(0, "table t(a @top)").fault(0, "table t(a key @key)").fault(0, "table t(a key,b ref@)").fault(0, "table t(a key,b ref @num)")
                .fault(0, "table t(a key @b num)").fault(0, "table t(a key,@)").fault(0, "table t(@,a key)").fault(0, "table t @a key").fault(0, "table t(a key)@)");
    }

    /** "ref and a name of a table, which is meant as of now": the table itself is not there yet. */
    private static void refs() {
        Desk d = new Desk("refs").enter(1, 16).fault(0, "table t(a key,b ref @t)").say(0, "table t(a key)", 1).fault(0, "table u(a key,b ref @u)").say(1, "table u(a key,b ref t)", 1);
        d.fault(0, "table v(a key,b ref @u)").say(1, "table t(a key,b ref t)", 2).refused(1, "put t(1,1)", 'r').say(0, "put t(1)", 1).say(1, "put t(5,1)", 1).say(1, "put u(1,1)", 1).refused(1, "put u(2,5)", 'r');
        d.say(1, "drop t", 1).get(1, "get all from u", "1 1").say(0, "cut t", 1).get(1, "get all from u", "");
    }

    /** "It is a fault to tell a column twice, or a sixth one, each at its name" */
    private static void columnsToldTwice() {
        Desk d = new Desk("columns told twice").fault(0, "table t(a key,b num,@a num)").fault(0, "table t(a key,b num,@b num,b num)").fault(0, "table t(a key,b num,c num,d num,@c num,e num)");
        d.fault(0, "table t(a key,b num,c num,d num,e num,@f num) if q").fault(0, "table t(a key,b num,c num,d num,e num,@b num)").fault(0, "table t(a key,b @key,c num,d num,e num,f num)").fault(0, "table t(a key,@a ref zz)");
        d.say(0, "table t(a key,b num,c num,d num,e num)", 1).say(0, "put t(1,2,3,4,5)", 1).get(0, "get all from t", "1 2 3 4 5");
    }

    /** "refused, 't', if there is a table of this name and label, or there are 3 of the label, or a transaction .. is open" */
    private static void tablesRefused() {
        Desk d = new Desk("tables refused").enter(1, 16).say(0, "table t(a key)", 1).refused(0, "table t(a key,b num)", 't').fault(0, "table t(a key) if @b").say(1, "table t(a key)", 1).refused(1, "table t(a key)", 't');
        d.begin(0, 0).refused(0, "table u(a key)", 't').refused(0, "table t(a key)", 't').fault(0, "table u(a @num)").say(1, "table u(a key)", 2).giveUp(0, 0).say(0, "table u(a key)", 2).say(0, "table v(a key)", 3);
        d.refused(0, "table w(a key)", 't').begin(1, 0).say(0, "drop v", 1).say(0, "table v(a key)", 3).end(1, 0).say(1, "table w(a key)", 3).audit(1, 0, 'r', 4).audit(1, 16, 'r', 1).audit(1, 0, 'd', 5);
        d.due("at 0", () -> d.house.tables(0), 3).due("at 16", () -> d.house.tables(1), 6);
        Desk e = new Desk("one of two").enter(1, 16).say(0, "table b(a key)", 1).say(0, "table c(a key)", 2).refused(0, "table b(a key)", 't').refused(0, "table c(a key)", 't').say(1, "table c(a key)", 1);
        e.say(1, "table b(a key)", 2).refused(1, "table b(x auto)", 't').refused(1, "table c(x auto)", 't').refused(0, "table b(x auto)", 't').say(0, "table a(a key)", 3).say(1, "table bb(a key)", 3);
    }

    /** "drop and a name takes a table, and all entries of it; refused, 't', if it is not of the label of the session, or .." */
    private static void drops() {
        Desk d = new Desk("drops").enter(1, 16).enter(2, 17).say(0, "table t(a key,b num)", 1).say(0, "table u(a key)", 2).say(0, "put t(1,1)", 1).say(1, "put t(2,2)", 1).say(2, "cut t", 2).say(2, "put t(3,3)", 1);
        d.refused(1, "drop t", 't').refused(2, "drop t", 't').begin(0, 1).refused(0, "drop t", 't').fault(0, "drop @v").giveUp(0, 0).begin(1, 2).begin(2, 1).say(0, "drop t", 1);
        d.fault(0, "drop @t").fault(2, "get all from @t").seen(0, 0).seen(1, 0).seen(2, 0).due("no entries", () -> d.house.veilShare(2), "ArithmeticException").end(1, 0).end(2, 0);
        d.due("tables", () -> d.house.tables(2), 1).say(0, "table t(a key)", 2).seen(2, 0).say(0, "put t(1)", 1).seen(2, 1).say(1, "table t(a key)", 1).refused(2, "drop t", 't').say(1, "drop t", 1).refused(1, "drop t", 't');
    }

    /** "as many expressions as the table has columns": "too few, at ')', or too many, at the first one too many" */
    private static void howManyExpressions() {
        Desk d = new Desk("how many expressions").say(0, "table t(a key,b num,c num)", 1).say(0, "table o(a key)", 2).fault(0, "put t(1@)").fault(0, "put t(1,2@)").fault(0, "put t(1,2   @)").say(0, "put t(1,2,3)", 1);
        d.fault(0, "put t(1,2,3,@4)").fault(0, "put t(1,2,3, @(4))").fault(0, "put t(1,2,3,@-4,5)").fault(0, "put t(1,2,3,@a)").fault(0, "put t(@a,2)").fault(0, "put t(1,@label)").fault(0, "put t(1,2,3,@4,a)");
        d.fault(0, "put o(@)").fault(0, "put o(1,@2)").say(0, "put o(1)", 1).fault(0, "put o@").fault(0, "put o @1").fault(0, "put o(1@").fault(0, "put o(1,@").fault(0, "put o(1) @if 1").seen(0, 2);
    }

    /** "the first one is next alone, if the key is auto, and only then, another one, or next elsewhere, being a fault" */
    private static void nextAlone() {
        Desk d = new Desk("next alone").say(0, "table n(a auto,b num)", 1).say(0, "table t(a key,b num)", 2).fault(0, "put n(@1,2)").fault(0, "put n( @-1,2)").fault(0, "put n(@(1),2)").fault(0, "put n(@none,2)");
        d.fault(0, "put n(next,@next)").fault(0, "put n(@1,next)").fault(0, "put t(@next,1)").fault(0, "put t(1,@next)").fault(0, "put n(next@)").fault(0, "put n(next,1,@2)").fault(0, "put n(next,1,@next)");
        d.fault(0, "put n(next@+1,2)").fault(0, "put n((@next),2)").fault(0, "put n(-@next,2)").fault(0, "put n(next @next,2)").fault(0, "set n b=@next").fault(0, "cut n if @next").fault(0, "get @next from n").fault(0, "put t(@next,next)");
        d.fault(0, "lower n @next to 1").fault(0, "put n(@a,next)").say(0, "put n( next ,2)", 1).get(0, "get all from n", "64 2").fault(0, "put n(next,@b)").say(0, "put n(next,none)", 1).get(0, "get a from n", "64;128");
    }

    /** "64 times so many as keys were given so, this one counted, at this label in this table, and the label" */
    private static void keysGiven() {
        Desk d = new Desk("keys given").enter(1, 63).enter(2, 16).enter(3, 0).say(0, "table n(a auto,b uniq) if b<9|!known b", 1).say(0, "table o(a auto)", 2);
        d.say(0, "put n(next,1)", 1).say(3, "put n(next,2)", 1).say(1, "put n(next,1)", 1).say(2, "put n(next,1)", 1).say(0, "put o(next)", 1).get(1, "get a from n", "64;80;127;128").get(1, "get a from o", "64");
        d.refused(0, "put n(next,1)", 'u').refused(0, "put n(next,9)", 'c').fault(0, "put n(next,@q)").say(0, "put n(next,none)", 1).get(0, "get a from n", "64;128;192").say(0, "cut n if a=192", 1);
        d.say(0, "put n(next,none)", 1).get(0, "get a from n", "64;128;256").say(1, "put n(next,none)", 1).get(1, "get most(a) from n", "256").get(1, "get a from n if label=63", "127;191");
        d.say(0, "drop n", 1).say(0, "table n(a auto)", 2).say(0, "put n(next)", 1).get(0, "get a from n", "64").say(1, "put n(next)", 1).get(1, "get a from n", "64;127");
    }

    /** "A change that is refused gives no key.", "Keys given by next are not given again." */
    private static void keysNotGivenAgain() {
        Desk d = new Desk("keys not given again").say(0, "table n(a auto,b num)", 1).begin(0, 0).begin(1, 0).say(0, "put n(next,0)", 1).say(1, "put n(next,1)", 1).say(0, "put n(next,2)", 1);
        d.get(0, "get all from n", "64 0;192 2").get(1, "get all from n", "128 1").giveUp(0, 2).end(1, 1).say(2, "put n(next,3)", 1).get(0, "get all from n", "128 1;256 3");
        d.begin(0, 2).say(0, "put n(next,4)", 1).enter(0, 0).say(0, "put n(next,5)", 1).get(0, "get a from n", "128;256;384").begin(0, 3).begin(1, 3).say(0, "set n b=9 if a=128", 1).say(0, "put n(next,6)", 1);
        d.say(1, "set n b=8 if a=128", 1).end(1, 1).endRefused(0, 'x').say(0, "put n(next,7)", 1).get(0, "get all from n", "128 8;256 3;384 5;512 7");
    }

    /** "It makes a row at the label of the session, also in place of a veil." */
    private static void putInPlaceOfVeils() {
        Desk d = new Desk("put in place of veils").enter(1, 16).say(0, "table t(a key,b num)", 1);
        rows(d, 0, "t", 1, 12, "1").say(1, "cut t", 12).seen(1, 0).say(1, "put t(1,2)", 1).get(1, "get all from t", "1 2").refused(1, "put t(1,3)", 'k').refused(1, "put t(13,3)", 'f').say(1, "put t(12,3)", 1);
        d.due("10 veils", () -> d.house.veilShare(1), 10f / 24f).get(0, "get count,sum(b) from t", "12 12").say(1, "cut t if a=1", 1).say(1, "put t(1,5)", 1).get(1, "get all from t", "1 5;12 3");
    }

    /** "those cells to be what the expressions are on the row as it was; it is a fault to tell a column twice, or the key" */
    private static void sets() {
        Desk d = new Desk("sets").enter(1, 16).say(0, "table t(a key,b num,c num,d num,e num)", 1).say(0, "put t(1,2,3,4,5)", 1).say(0, "put t(6,none,8,9,0)", 1);
        d.say(0, "set t b=c,c=b,d=e,e=d+a", 2).get(0, "get all from t", "1 3 2 5 5;6 8 - 0 15").fault(0, "set t @a=1").fault(0, "set t b=1,@b=2").fault(0, "set t b=1,@a=2").fault(0, "set t b=1,c=2,@b=3,a=4").fault(0, "set t @a=1,a=1");
        d.fault(0, "set t b@").fault(0, "set t b=1,@").fault(0, "set t @1=b").fault(0, "set t b=1 @c=2").fault(0, "set @zz a=1").fault(0, "set t @q=q").say(0, "set t b=1 if 0", 0).say(0, "set t b=1 if a=9", 0).say(0, "set t b=a/0 if b<5", 1);
        d.get(0, "get all from t", "1 - 2 5 5;6 8 - 0 15").say(1, "set t b=label if a=1", 1).get(1, "get label,b from t", "0 8;16 0").say(1, "set t b=label,c=known b", 2).get(1, "get label,b,c from t", "16 0 1;16 16 1").get(0, "get b from t", "-;8");
        d.get(1, "get all from t", "1 16 1 5 5;6 0 1 0 15").get(1, "get each label,a from t", "0 1;0 6;16 1;16 6").say(1, "set t b=b if none", 0).seen(1, 2);
    }

    /** "of several of one key that are to be changed the one whose label is the greatest number counts alone, in cut as well" */
    private static void severalOfOneKey() {
        Desk d = new Desk("several of one key").enter(1, 1).enter(2, 2).enter(3, 7).enter(4, 4).say(0, "table t(a key,b num)", 1).say(1, "put t(1,10)", 1).say(2, "put t(1,20)", 1).say(4, "put t(1,40)", 1);
        d.begin(3, 3).say(3, "set t b=b+1", 1).get(3, "get label,b from t", "7 41").giveUp(3, 1).begin(3, 3).say(3, "set t b=b+1 if b<40", 1).get(3, "get label,b from t", "7 21").giveUp(3, 1);
        d.begin(3, 3).say(3, "set t b=b+1 if label=1", 1).get(3, "get label,b from t", "7 11").end(3, 1).say(3, "cut t", 1).seen(3, 0).due("a veil", () -> d.house.veilShare(3), 1f / 4f).say(3, "cut t", 0);
        d.enter(5, 6).say(5, "cut t if b=20", 1).seen(5, 0).due("a veil", () -> d.house.veilShare(5), 1f / 3f).enter(6, 5).say(6, "cut t if b=99", 0).seen(6, 2).say(6, "cut t if b>0", 1).seen(6, 0);
        d.say(1, "put t(2,1)", 1).say(2, "put t(2,2)", 1).say(1, "put t(3,3)", 1).enter(7, 3).say(7, "set t b=b*5 if a>1", 2).get(7, "get label,a,b from t", "1 1 10;2 1 20;3 2 10;3 3 15");
    }

    /** "the entry at the label of the session, if there is one, goes, and if rows of this key would be among the chosen ones then, a veil comes" */
    private static void cuts() {
        Desk d = new Desk("cuts").enter(1, 16).enter(2, 17).say(0, "table t(a key,b num)", 1).say(0, "put t(1,1)", 1).say(1, "put t(1,2)", 1).say(1, "put t(2,3)", 1).say(2, "put t(2,4)", 1).say(2, "put t(3,5)", 1);
        d.say(2, "cut t", 3).seen(2, 0).due("veils of 1 and 2", () -> d.house.veilShare(2), 2f / 5f).say(1, "cut t if a=2", 1).due("none there", () -> d.house.veilShare(1), 0f).say(1, "cut t", 1).due("of 1", () -> d.house.veilShare(1), 1f / 2f);
        d.say(2, "put t(1,9)", 1).say(2, "cut t", 1).due("no row is below", () -> d.house.veilShare(2), 2f / 3f).say(0, "cut t", 1).due("veils", () -> d.house.veilShare(2), 1f).say(0, "put t(1,7)", 1).seen(1, 0).seen(2, 0);
        d.say(1, "cut t", 0).say(0, "cut t if b=8", 0).say(0, "cut t if b", 1).say(2, "put t(2,1)", 1).say(2, "cut t", 1).fault(0, "cut t @a").fault(0, "cut@").fault(0, "cut t if@").fault(0, "cut t@,u");
    }

    /** "refused by the first of these that is so": 'n', 'k', 'f', 'u', 'r', 'c'. */
    private static void firstReason() {
        Desk d = new Desk("first reason").say(0, "table r(a key)", 1).say(0, "table t(a key,b uniq,c ref r,d num) if d<9", 2);
        d.refused(0, "put t(none,1,5,9)", 'n').refused(0, "put t(1,1,5,9)", 'r').refused(0, "put t(1,1,none,9)", 'c').refused(0, "put t(1,1,none,none)", 'c').say(0, "put t(1,1,none,1)", 1);
        d.refused(0, "put t(1,1,5,9)", 'k').refused(0, "put t(none,1,5,9)", 'n').refused(0, "put t(2,1,5,9)", 'u').refused(0, "put t(2,2,5,9)", 'r').refused(0, "put t(2,2,none,9)", 'c');
        for (int i = 2; i <= 12; i++) {
            d.say(0, "put t(" + i + "," + i + ",none,1)", 1);
        }
        d.refused(0, "put t(13,1,5,9)", 'f').refused(0, "put t(13,13,none,1)", 'f').refused(0, "put t(12,1,5,9)", 'k').refused(0, "put t(none,1,5,9)", 'n').refused(0, "set t b=1,c=5,d=9", 'u').refused(0, "set t c=5,d=9", 'r').refused(0, "set t d=9", 'c');
        d.enter(1, 16).say(1, "put t(13,1,none,1)", 1).refused(1, "set t b=1,c=5,d=9", 'f').refused(1, "set t b=1,c=5,d=9 if a>2", 'u').refused(1, "set t c=5,d=9 if a>2", 'r').refused(1, "set t d=9 if a>2", 'c').say(1, "set t d=8 if a>2", 11);
    }

    /** "'f' there are more than 12 entries of the table and this label" */
    private static void tooManyEntries() {
        Desk d = new Desk("too many entries").enter(1, 16).enter(2, 17).say(0, "table t(a key,b num)", 1).say(0, "table u(a key,b num)", 2);
        rows(d, 0, "t", 1, 12, "0").refused(0, "put t(13,0)", 'f').say(0, "set t b=1", 12).say(0, "put u(1,1)", 1).say(1, "put t(13,0)", 1).refused(2, "set t b=2", 'f').refused(2, "cut t", 'f').say(2, "set t b=2 if a#13", 12);
        d.refused(2, "set t b=3 if a=13", 'f').refused(2, "cut t if a=13", 'f').say(2, "cut t if a=1", 1).refused(2, "cut t if a=13", 'f').say(2, "set t b=3 if a<13", 11).say(1, "set t b=4 if a<12", 11).refused(1, "set t b=4", 'f');
        d.say(1, "cut t if a=13", 1).say(1, "set t b=5", 12).seen(1, 13).seen(2, 12).begin(0, 13).say(0, "cut t if a=12", 1).say(0, "put t(14,0)", 1).refused(0, "put t(15,0)", 'f').end(0, 2).seen(0, 13);
    }

    /** "'u' two rows of the table, at this label, hold the same number in a column uniq": nothing is no number. */
    private static void uniqueNumbers() {
        Desk d = new Desk("unique numbers").enter(1, 16).say(0, "table t(a key,b uniq,c uniq,d num)", 1).say(0, "put t(1,1,2,3)", 1).say(0, "put t(2,2,1,3)", 1).refused(0, "put t(3,1,9,9)", 'u').refused(0, "put t(3,9,1,9)", 'u');
        d.refused(0, "put t(3,9,2,9)", 'u').say(0, "put t(3,none,none,3)", 1).say(0, "put t(4,none,none,3)", 1).say(0, "put t(5,0,0,0)", 1).refused(0, "put t(6,0,7,7)", 'u').refused(0, "set t b=5", 'u').refused(0, "set t b=2 if a=1", 'u');
        d.say(0, "set t b=c,c=b", 5).say(0, "set t b=a,c=0-a", 5).refused(0, "set t b=6-a if a<5", 'u').say(0, "set t b=6-a", 5).say(0, "set t b=none", 5).say(1, "put t(6,1,-1,1)", 1).refused(1, "set t c=-1 if a=1", 'u').say(1, "set t b=1 if a=6", 1);
        d.say(1, "set t d=7 if a=2", 1).refused(1, "set t b=1 if a=3", 'u').say(1, "set t d=8 if a=1", "UnsupportedOperationException").due("u", () -> d.house.reason(1), 'u').say(1, "cut t if a=6", 1).say(1, "set t d=8 if a=1", 1);
    }

    /** "of the table, at this label": rows of another label, or table, that hold the same number stand in no way. */
    private static void uniqueAtALabel() {
        Desk d = new Desk("unique at a label").enter(1, 16).enter(2, 17).enter(3, 1).say(0, "table t(a key,b uniq)", 1).say(0, "table u(a key,b uniq)", 2).say(0, "put u(1,5)", 1);
        d.say(0, "put t(2,5)", 1).say(1, "put t(1,5)", 1).say(2, "put t(3,5)", 1).say(2, "put t(4,6)", 1).say(1, "put t(5,6)", 1).say(1, "lower t 1 to 0", 1).say(2, "lower t 3 to 16", 1);
        d.refused(0, "put t(9,9)", 'u').refused(1, "put t(9,9)", 'u').say(2, "put t(9,9)", 1).say(3, "put t(9,9)", 1).say(3, "cut t if a=9", 1).say(2, "set t b=7 if a=4", 1).say(0, "put u(2,6)", 1);
        d.begin(2, 8).say(2, "put t(10,10)", 1).end(2, 1).begin(1, 6).refused(1, "put t(9,9)", 'u').say(1, "cut t if a=3", 1).say(1, "put t(9,9)", 1).end(1, 2).refused(0, "cut t if 0", 'u').say(0, "cut t if a=1", 1);
    }

    /** "'r' a cell of a row that it made, or changed, refers to what is not met; 'c' the check is not true of such a row" */
    private static void unmetAndUnchecked() {
        Desk d = new Desk("unmet and unchecked").enter(1, 16).say(0, "table r(a key)", 1).say(0, "table t(a key,b ref r,c num,d ref r) if c>label|!b", 2).say(0, "put r(1)", 1).say(0, "put r(2)", 1).say(0, "put t(1,1,5,2)", 1);
        d.refused(0, "put t(2,3,5,1)", 'r').refused(0, "put t(2,1,5,3)", 'r').refused(0, "put t(2,1,0,1)", 'c').refused(0, "put t(2,1,none,1)", 'c').say(0, "put t(2,none,none,1)", 1).refused(1, "put t(3,1,16,1)", 'c').say(1, "put t(3,1,17,1)", 1);
        d.refused(1, "set t c=c if a=1", 'c').say(1, "set t b=none if a=1", 1).refused(0, "set t b=3 if a=1", 'r').refused(0, "set t c=-1 if a=1", 'c').say(0, "set t c=-1,b=none if a=1", 1).say(1, "cut r if a=1", 1).get(1, "get a from t", "1");
        d.say(1, "cut t", 1).get(1, "get each a,label from t", "1 0;2 0;3 16").refused(1, "put t(4,1,99,none)", 'r').say(1, "put t(4,2,99,none)", 1).say(0, "cut r", 2).get(0, "get all from t", "").say(0, "put t(5,none,9,none)", 1).get(0, "get a from t", "5");
        Desk e = new Desk("unchecked").say(0, "table t(a key,b num) if b", 1).refused(0, "put t(1,0)", 'c').refused(0, "put t(1,none)", 'c').say(0, "put t(1,-1)", 1).refused(0, "set t b=b+1", 'c').say(0, "set t b=9", 1).say(0, "table u(a key) if 0", 2);
        e.refused(0, "put u(1)", 'c').say(0, "cut u", 0).say(0, "table v(a key) if none", 3).refused(0, "put v(1)", 'c').say(0, "set t b=0 if a=2", 0).seen(0, 1);
    }

    /** The same, of each of several rows that are changed at once. */
    private static void oneOfSeveral() {
        for (int i = 1; i <= 3; i++) {
            Desk d = new Desk("one of several").enter(1, 16).say(0, "table r(a key)", 1).say(0, "table t(a key,b ref r,c num) if c#7", 2);
            for (int k = 1; k <= 3; k++) {
                d.say(0, "put t(" + k + ",none,0)", 1).say(0, k == i ? "put r(9)" : "put r(" + k + ")", 1);
            }
            d.refused(0, "set t b=a", 'r').refused(1, "set t b=a", 'r').say(0, "set t b=a if a#" + i, 2).refused(0, "set t c=6+(a=" + i + ")", 'c').refused(1, "set t c=6+(a=" + i + ")", 'c');
            d.say(0, "set t c=6+(a=" + i + ") if a#" + i, 2).get(0, "get sum(c),count,sum(b) from t", "12 3 " + (6 - i)).say(1, "set t b=9 if a=" + i, 1).say(1, "set t c=1", 3);
        }
    }

    /** "lower, a name, an expression, to, and an expression, in both of which there are no rows" and its refusals, in their order */
    private static void lowerRefused() {
        Desk d = new Desk("lower refused").enter(1, 33).enter(2, 1).enter(3, 17).enter(4, 34).say(2, "table t(a key)", 1).say(1, "put t(5)", 1).say(2, "put t(6)", 1);
        d.refused(1, "lower t none to none", 'n').refused(1, "lower t 1/0 to 64", 'n').refused(1, "lower t 9 to none", 'l').refused(1, "lower t 5 to -1", 'l').refused(1, "lower t 5 to 64", 'l').refused(1, "lower t 5 to 999999999", 'l');
        d.refused(1, "lower t 5 to 33", 'l').refused(1, "lower t 5 to 0", 'l').refused(1, "lower t 5 to 16", 'l').refused(1, "lower t 5 to 32", 'l').refused(1, "lower t 5 to 49", 'l').refused(1, "lower t 5 to 35", 'l').refused(1, "lower t 5 to 3", 'l');
        d.refused(1, "lower t 6 to 1", 'k').refused(1, "lower t 9 to 17", 'k').refused(2, "lower t 6 to 1", 'l').refused(2, "lower t 6 to 0", 'l').fault(4, "lower @t 5 to 1").fault(0, "lower @t 5 to 1").seen(3, 1).say(1, "lower t 2+3 to 16+1", 1).seen(3, 2);
        d.say(1, "lower t 5 to 1", 1).say(3, "lower t 5 to 1", 1).seen(2, 2).say(1, "cut t if a=5", 1).refused(1, "lower t 5 to 1", 'k').refused(1, "lower t 6 to 17", 'k').begin(1, 1).refused(1, "lower t none to 99", 'n').refused(1, "lower t 5 to 99", 'l');
        d.refused(1, "lower t 5 to 1", 'k').say(1, "put t(5)", 1).refused(1, "lower t 5 to 1", 't').end(1, 1).say(1, "lower t 5 to 1", 1).audit(1, 33, 'r', 21).fault(1, "lower t 5 @1").fault(1, "lower t 5 to 1 @to").fault(1, "lower t @to 1").fault(1, "lower @5 to 1");
    }

    /** "put into the same table at the other label, in place of what is there, and stays itself", "'f' as there, by what the session sees" */
    private static void lowered() {
        Desk d = new Desk("lowered").enter(1, 16).enter(2, 32).say(0, "table r(a key)", 1).say(0, "table t(a key,b uniq,c ref r) if b<label+3", 2).say(2, "put r(1)", 1).say(2, "put t(1,5,1)", 1).say(1, "put t(1,7,none)", 1);
        d.say(2, "lower t 1 to 16", 1).get(1, "get all from t", "").get(1, "get each all from t", "1 5 1").get(2, "get label,a,b,c from t", "32 1 5 1").say(0, "put t(2,2,none)", 1).say(2, "lower t 1 to 0", 1).get(0, "get each b from t", "2;5").seen(0, 1);
        d.say(1, "cut t", 1).say(2, "put t(2,9,none)", 1).say(2, "lower t 2 to 16", 1).get(1, "get b from t", "9").refused(1, "put t(3,5,none)", 'u').say(1, "put t(3,8,none)", 1).due("the veil went", () -> d.house.veilShare(1), 0f);
        d.say(2, "put t(4,8,none)", 1).say(2, "lower t 4 to 16", 1).refused(1, "put t(6,1,none)", 'u').refused(1, "cut t if a=9", 'u').say(1, "set t b=1 if a=3", 1).begin(1, 3).say(1, "set t b=2 if a=3", 1).say(2, "lower t 4 to 16", 1).end(1, 1);
    }

    private static void loweredToFull() {
        Desk d = new Desk("lowered to full").enter(1, 16).enter(2, 32).say(0, "table t(a key,b num)", 1);
        rows(d, 1, "t", 1, 12, "1").say(2, "put t(13,2)", 1).say(2, "put t(12,2)", 1).refused(2, "lower t 13 to 16", 'f').say(2, "lower t 12 to 16", 1).get(1, "get sum(b),count from t", "13 12").say(1, "cut t if a=1", 1);
        d.begin(2, 12).say(1, "put t(14,3)", 1).refused(2, "lower t 13 to 16", 't').giveUp(2, 0).refused(2, "lower t 13 to 16", 'f').begin(2, 13).say(1, "cut t if a=14", 1).refused(2, "lower t 13 to 16", 'f').giveUp(2, 0).say(2, "lower t 13 to 16", 1);
        d.seen(1, 12).say(2, "lower t 13 to 0", 1).get(0, "get all from t", "13 2").begin(1, 12).say(1, "cut t if a=2", 1).say(2, "put t(15,1)", 1).refused(2, "lower t 15 to 16", 'f').end(1, 1).say(2, "lower t 15 to 16", 1).refused(1, "put t(16,1)", 'f');
    }

    /** "it is refused, and all that it changed is gone: 'd' .. 'x' .. 'f' and 'u'", the first of them that is so */
    private static void endsRefused() {
        Desk d = new Desk("ends refused").say(0, "table t(a key,b uniq)", 1).say(0, "table u(a key,b uniq)", 2).say(0, "put t(1,1)", 1);
        d.begin(1, 1).say(1, "set t b=9", 1).say(1, "put t(2,2)", 1).say(1, "put u(1,1)", 1).say(0, "set t b=7", 1).say(0, "put t(3,2)", 1).begin(2, 2).say(2, "cut t if a=3", 1).say(2, "put u(2,2)", 1).say(0, "drop u", 1);
        d.endRefused(1, 'd').get(0, "get all from t", "1 7;3 2").endRefused(2, 'd').get(0, "get all from t", "1 7;3 2").begin(1, 2).say(1, "put t(4,4)", 1).say(1, "set t b=8 if a=1", 1).say(0, "set t b=b+10", 2).say(0, "put t(5,4)", 1).endRefused(1, 'x');
        d.get(0, "get all from t", "1 17;3 12;5 4").begin(1, 3).say(1, "put t(6,6)", 1).say(0, "put t(7,6)", 1).endRefused(1, 'u').begin(1, 4).say(1, "put t(8,none)", 1).say(1, "put t(9,6)", UNSUPPORTED).due("u", () -> d.house.reason(1), 'u').end(1, 1);
        d.audit(0, 0, 'r', 5).audit(0, 0, 'c', 1).begin(1, 5).begin(2, 5).say(1, "cut t if a=8", 1).say(1, "put t(8,5)", 1).say(2, "put t(10,5)", 1).end(2, 1).endRefused(1, 'u').get(0, "get b from t if a>7", "-;5");
    }

    /** "'f' is looked at for all tables that it changed, then 'u'", "with all that there is then" */
    private static void fullAtEnd() {
        Desk d = new Desk("full at the end").say(0, "table t(a key,b uniq)", 1).say(0, "table u(a key,b uniq)", 2);
        rows(d, 0, "t", 1, 10, "none").begin(1, 10).begin(2, 10).begin(3, 10).say(1, "put u(1,5)", 1).say(1, "put t(11,none)", 1).say(1, "put t(12,none)", 1).say(2, "put t(13,none)", 1).say(0, "put t(14,none)", 1).end(2, 1);
        d.say(0, "put u(2,5)", 1).endRefused(1, 'f').say(3, "put t(15,none)", 1).say(3, "cut t if a=1", 1).end(3, 2).seen(0, 13).begin(1, 13).say(1, "cut t if a=2", 1).say(1, "put t(16,none)", 1).end(1, 2).begin(1, 13).say(1, "set t b=1 if a=3", 1).end(1, 1);
        Desk e = new Desk("full at the end").say(0, "table t(a key,b uniq)", 1).say(0, "table u(a key,b num)", 2).begin(1, 0).say(1, "put t(1,1)", 1);
        rows(e, 1, "u", 1, 12, "none").say(0, "put t(2,1)", 1).say(0, "put u(13,1)", 1).endRefused(1, 'f').begin(1, 2).say(1, "put t(1,1)", UNSUPPORTED).say(1, "put t(1,2)", 1);
        rows(e, 1, "u", 1, 11, "none").say(0, "set t b=2", 1).endRefused(1, 'u').seen(0, 2).audit(0, 0, 'r', 3);
    }

    /** The same, of a transaction that changed one entry alone. */
    private static void fullAtEndOfOne() {
        Desk d = new Desk("full at the end of one").say(0, "table t(a key,b uniq)", 1);
        rows(d, 0, "t", 1, 11, "none").begin(1, 11).say(1, "put t(12,none)", 1).say(0, "put t(13,none)", 1).endRefused(1, 'f').seen(1, 12).begin(1, 12).say(1, "set t b=1 if a=1", 1).say(0, "set t b=1 if a=2", 1).endRefused(1, 'u');
        d.begin(1, 12).say(1, "cut t if a=1", 1).end(1, 1).begin(1, 11).say(1, "put t(12,none)", 1).end(1, 1).seen(0, 12);
    }

    /** The same, at a label of which there are entries of other sessions, and of the second one of two tables. */
    private static void endsAtALabel() {
        Desk d = new Desk("ends at a label").enter(1, 17).enter(2, 17).enter(3, 16).say(0, "table t(a key,b uniq)", 1).say(0, "table u(a key,b uniq)", 2).begin(1, 0).say(1, "put t(1,1)", 1).say(1, "put u(1,1)", 1).say(2, "put u(2,1)", 1).endRefused(1, 'u');
        d.begin(1, 1).say(1, "put u(3,3)", 1).say(1, "put t(1,1)", 1).say(2, "put t(2,1)", 1).endRefused(1, 'u').begin(1, 2).say(1, "put t(3,3)", 1).say(1, "put u(3,3)", 1).say(3, "put t(4,3)", 1).say(0, "put u(5,3)", 1).end(1, 2);
        for (int i = 4; i <= 12; i++) {
            d.say(2, "put t(" + i + ",none)", 1);
        }
        d.begin(1, 14).say(1, "put u(9,9)", 1).say(1, "put t(13,none)", 1).say(2, "put t(14,none)", 1).endRefused(1, 'f').begin(1, 15).say(1, "cut t if a=14", 1).say(1, "put t(13,none)", 1).say(3, "put t(15,none)", 1).end(1, 2).refused(2, "put t(16,none)", 'f');
        Desk e = rows(new Desk("full aside").enter(1, 17).say(0, "table t(a key,b uniq)", 1), 0, "t", 1, 12, "none").begin(1, 12).say(1, "put t(13,1)", 1).say(0, "set t b=a", 12).end(1, 1).begin(0, 12).say(0, "set t b=0-a", 12).say(1, "put t(14,14)", 1).end(0, 12);
        e.seen(1, 14).begin(1, 14).say(1, "cut t if a>12", 2).say(1, "set t b=5 if a=5", 1).say(0, "set t b=5 if a=3", 1).end(1, 3).seen(1, 12);
    }

    /** "'x' if an entry that it changed was changed by what ended since it began, at that key and label" */
    private static void sameKeySinceItBegan() {
        Desk d = new Desk("same key").enter(2, 16).enter(3, 16).say(0, "table t(a key,b num)", 1).say(0, "table u(a key,b num)", 2);
        rows(d, 0, "t", 1, 4, "0").say(0, "put u(1,0)", 1).say(0, "set t b=1 if a=1", 1).begin(1, 5).say(1, "set t b=2 if a=1", 1).say(0, "set t b=3 if a=2", 1).say(0, "set u b=3", 1).say(2, "set t b=4 if a=1", 1).end(1, 1);
        d.begin(1, 5).say(1, "cut t if a=1", 1).say(0, "set t b=b if a=1", 1).endRefused(1, 'x').begin(1, 5).say(1, "put t(9,9)", 1).say(1, "cut t if a=9", 1).say(0, "put t(9,1)", 1).say(0, "cut t if a=9", 1).endRefused(1, 'x');
        d.begin(1, 5).say(0, "set t b=5 if a=1", 1).say(1, "get all from t", 4).end(1, 0).begin(2, 5).begin(3, 5).say(2, "cut t if a=3", 1).say(0, "cut t if a=3", 1).say(3, "put t(3,7)", 1).end(2, 1).endRefused(3, 'x').seen(2, 4);
        d.begin(1, 4).begin(0, 4).say(0, "set t b=8 if a=2", 1).say(1, "set t b=9 if a=4", 1).giveUp(0, 1).end(1, 1).begin(1, 4).say(1, "set t b=6 if a=2", 1).refused(0, "put t(2,2)", 'k').fault(0, "set t b=@q").say(0, "set t b=1 if b=77", 0).end(1, 1);
    }

    /** "Otherwise its changes are made at once.": none is seen by others ahead of that. */
    private static void madeAtOnce() {
        Desk d = new Desk("made at once").enter(2, 16).say(0, "table t(a key,b num)", 1).say(0, "put t(1,1)", 1).say(0, "put t(2,2)", 1).begin(1, 2).say(1, "set t b=9", 2).say(1, "put t(3,3)", 1).say(1, "cut t if a=2", 1);
        d.get(0, "get all from t", "1 1;2 2").get(2, "get all from t", "1 1;2 2").get(1, "get all from t", "1 9;3 3").seen(1, 2).begin(3, 2).end(1, 3).get(0, "get all from t", "1 9;3 3").get(2, "get all from t", "1 9;3 3");
        d.get(3, "get all from t", "1 1;2 2").end(3, 0).get(3, "get all from t", "1 9;3 3").begin(1, 2).say(1, "cut t", 2).enter(1, 0).get(0, "get all from t", "1 9;3 3").due("sound", () -> d.house.isSound(), true);
    }

    /** "'d' statements that were done, 'r' refused ones, and transactions refused at their end, 'f' faults, 'c' .. ended well" */
    private static void counts() {
        Desk d = new Desk("counts").enter(1, 16).enter(2, 16).say(0, "table t(a key)", 1).fault(0, "").fault(0, "@$").refused(0, "put t(none)", 'n').say(1, "put t(1)", 1).get(1, "get a from t", "1").say(1, "cut t if 0", 0);
        d.audit(1, 0, 'd', 1).audit(1, 0, 'f', 2).audit(1, 0, 'r', 1).audit(1, 0, 'c', 0).audit(1, 16, 'd', 3).audit(1, 16, 'c', 0).begin(1, 1).say(1, "put t(2)", 1).fault(1, "put t(@)").refused(1, "put t(2)", 'k').giveUp(1, 1);
        d.audit(1, 16, 'd', 4).audit(1, 16, 'f', 1).audit(1, 16, 'r', 1).audit(1, 16, 'c', 0).begin(1, 1).begin(2, 1).say(1, "put t(5)", 1).say(2, "put t(5)", 1).end(1, 1).endRefused(2, 'x').audit(2, 16, 'c', 1).audit(2, 16, 'r', 2).audit(2, 16, 'd', 6);
        d.begin(1, 2).enter(1, 63).audit(1, 16, 'c', 1).audit(1, 63, 'c', 0).begin(1, 2).end(1, 0).audit(1, 63, 'c', 1).audit(1, 16, 'c', 1).end(1, "IllegalStateException").giveUp(1, "IllegalStateException").audit(1, 63, 'r', 0).audit(1, 63, 'f', 0);
        d.due("type", () -> d.house.type(1, (char) 7), "IllegalArgumentException").due("cell", () -> d.house.cell(1, 0, 0), "IndexOutOfBoundsException").audit(1, 63, 'f', 0).audit(1, 63, 'd', 0).audit(0, 63, 'd', UNSUPPORTED).audit(0, 0, 'r', 1);
    }

    public static void main(String[] args) {
        kinds();
        refs();
        columnsToldTwice();
        tablesRefused();
        drops();
        howManyExpressions();
        nextAlone();
        keysGiven();
        keysNotGivenAgain();
        putInPlaceOfVeils();
        sets();
        severalOfOneKey();
        cuts();
        firstReason();
        tooManyEntries();
        uniqueNumbers();
        uniqueAtALabel();
        unmetAndUnchecked();
        oneOfSeveral();
        lowerRefused();
        lowered();
        loweredToFull();
        endsRefused();
        fullAtEnd();
        fullAtEndOfOne();
        endsAtALabel();
        sameKeySinceItBegan();
        madeAtOnce();
        counts();
        Desk.close("ChangesTest");
    }
}
