/** Promise 7 and the parts 2 to 7 of the terms: tokens, faults, expressions, answers, changes, labels. */
public final class LanguageTest {
    private static Desk withTable() {
        Desk d = new Desk("language");
        d.say(0, "table t(a key,b num,c num)", 1).say(0, "put t(1,10,none)", 1).say(0, "put t(2,-7,3)", 1);
        return d;
    }

    private static void tokens() {
        Desk d = withTable();
        d.due("8", () -> d.house.run(8), "IndexOutOfBoundsException").due("-1", () -> d.house.run(-1), "IndexOutOfBoundsException");
        d.fault(0, "").fault(0, "   ").fault(0, "get  ").fault(0, "get 1,").fault(0, "get 1 @$ from t").fault(0, "@Get all from t");
        d.fault(0, "get all from @tabletable").fault(0, "@toolong").fault(0, "get @1234567890 from t").fault(0, "@_");
        d.get(0, "get 123456789,000000007 from t top 1", "123456789 7").get(0, "get1,2from t top 1", "1 2");
        d.get(0, "  get   a,-b from   t  ", "1 -10;2 7").fault(0, "get a from t@1").fault(0, "get all from t @;");
        d.fault(0, "get ab from @$").fault(0, "get @abcdefg from t").fault(0, "get @abcdef from t").fault(0, "get a from t @a");
        d.fault(0, "get @\" from t").fault(0, "@all").fault(0, "@12").fault(0, "@t").fault(0, "@end");
    }

    private static void firstFault() {
        Desk d = withTable();
        d.fault(0, "put zz(1,2,3) @$").fault(0, "put zz(1,@$").fault(0, "put @zz(a,2,3)").fault(0, "get @q from zz by a,b");
        d.fault(0, "get q from @zz").fault(0, "get q from t join @zz on q=q").fault(0, "get q from @zz join t on q=q");
        d.fault(0, "get @q,b from t by w").fault(0, "get q,a from t join t on @=b").fault(0, "get @q from t join t on q=w");
        d.fault(0, "get a from t join t on @q=w").fault(0, "get a from t join t on a=@w").fault(0, "get @a from t if q=w by w").fault(0, "get @w from t if q=w by w");
        d.fault(0, "get a from t by a,@w up 2").fault(0, "get a from t up @2").fault(0, "get a from t down @0").fault(0, "get all from t up @4");
        d.get(0, "get all from t up 3", "1 10 -;2 -7 3").fault(0, "get all from t up @-1").fault(0, "get all from t up").fault(0, "get a from t top @a");
        d.say(0, "table u(x key,c num)", 2).get(0, "get x from t join u on a=x", "").fault(0, "get a from t join u on @x=a");
        d.fault(0, "get a from t join u on a=@b").fault(0, "get @q from t join u on a=x").get(0, "get all from t join u on a=x up 5", "");
        d.fault(0, "get all from t join u on a=x up @6").due("columns", () -> d.house.columns(0), 5);
        d.fault(0, "get a from t top @top 1").fault(0, "get a from t top 1 @up 1").fault(0, "get a from t up 1 @by a").fault(0, "get a from t by a @if 1");
        d.fault(0, "get a from t if 1 @join u on a=x").fault(0, "get each @each a from t");
        d.fault(0, "get all@, a from t").fault(0, "get a,@all from t").fault(0, "get @from t").fault(0, "get a from @get").fault(0, "drop @zz");
    }

    private static void grouping() {
        Desk d = withTable();
        d.fault(0, "get @a,count from t").fault(0, "get b,a+@c from t by b,a").fault(0, "get @label,count from t by a").fault(0, "get @all from t by a");
        d.fault(0, "get b,count,@a from t by b").fault(0, "get @b from zz by c").fault(0, "get b from @zz by b").fault(0, "get @all from zz by b");
        d.fault(0, "get b,count@+1 from t by b").fault(0, "get sum @from t").fault(0, "get sum(@count) from t").fault(0, "get sum(b @from t");
        d.fault(0, "get @b,count from zz").fault(0, "get 1 from t by @label").fault(0, "get 1 from t by a,").fault(0, "get count@(a) from t");
        d.get(0, "get count,sum(b),least(b),most(b),sum(c),5 from t", "2 3 -7 10 3 5");
        d.get(0, "get count,sum(b),least(b),most(c),7 from t if 0", "0 - - - 7").get(0, "get count from t if 0 by a", "");
        d.say(0, "put t(3,10,4)", 1).say(0, "put t(4,none,1)", 1).say(0, "put t(5,none,none)", 1);
        d.get(0, "get b,count,sum(c) from t by b", "- 2 1;-7 1 3;10 2 4").get(0, "get b+1,count from t by b,b", "- 2;-6 1;11 2");
        d.get(0, "get b,count from t by b down 2", "- 2;10 2;-7 1").get(0, "get 1 from t by b", "1;1;1").get(0, "get sum(label) from t", "0");
        d.get(0, "get sum(b*99999999) from t if b>0", "-").get(0, "get sum(b*9999999) from t if b>0", "199999980");
        d.get(0, "get least(c),most(c) from t by b top 2", "1 1;3 3").get(0, "get count,sum(1) from t join t on b=b by a", "1 1;2 2;2 2");
    }

    private static void expressions() {
        Desk d = withTable();
        String[][] all = {{"1+2*3", "7"}, {"(1+2)*3", "9"}, {"7/2", "3"}, {"-7/2", "-4"}, {"7/-2", "-4"}, {"-7%2", "1"}, {"7%-2", "-1"},
            {"-7%-2", "-1"}, {"1/0", "-"}, {"1%0", "-"}, {"0/5", "0"}, {"2-3-4", "-5"}, {"24/4/2", "3"}, {"24/4*2", "12"}, {"7%4%2", "1"},
            {"999999999+1", "-"}, {"-999999999-1", "-"}, {"99999*99999", "-"}, {"-999999999", "-999999999"}, {"999999999*1", "999999999"},
            {"100000*10000", "-"}, {"-999999998-1", "-999999999"}, {"999999998+1", "999999999"}, {"none+1", "-"}, {"1*none", "-"}, {"-none", "-"}, {"none", "-"}, {"none=none", "0"}, {"none#1", "0"},
            {"1#2", "1"}, {"1#1", "0"}, {"1<2", "1"}, {"2<1", "0"}, {"2>1", "1"}, {"1>1", "0"}, {"none<1", "0"}, {"1>none", "0"}, {"3=3", "1"},
            {"!none", "1"}, {"!0", "1"}, {"!5", "0"}, {"!!5", "1"}, {"known none", "0"}, {"known 0", "1"}, {"known known none", "1"},
            {"- -5", "5"}, {"-!0", "-1"}, {"none|5", "1"}, {"none|0", "0"}, {"none&1", "0"}, {"2&3", "1"}, {"-1&1", "1"}, {"0|0&1", "0"},
            {"1|0&0", "1"}, {"(1|0)&0", "0"}, {"1+1=2&3>2", "1"}, {"1=1=1@", ""}, {"(1=1)=1", "1"}, {"1=(1=1)", "1"}, {"!1=0", "1"},
            {"!(1=0)", "1"}, {"-2*3", "-6"}, {"2*-3", "-6"}, {"known 1/0", "-"}, {"known (1/0)", "0"}, {"1-1|1", "1"}, {"5-2>2|0", "1"}, {"label", "0"}};
        for (String[] one : all) {
            d = withTable();
            if (one[0].endsWith("@")) {
                d.fault(0, "get 1=1@=1 from t").fault(0, "get 1<2|1<2@>3 from t").fault(0, "get (1<2@<3) from t");
            } else {
                d.get(0, "get " + one[0] + " from t top 1", one[1]);
            }
        }
        d.get(0, "get a,b=10,known c,c+b from t", "1 1 0 -;2 0 1 -4");
        String deep = "((((((((((((((((((((((((((((((((((((((((((((((((";
        d.get(0, "get " + deep + "7" + deep.replace('(', ')') + " from t top 1", "7").fault(0, "get " + deep + "7" + deep.substring(1).replace('(', ')') + " @from t");
        d.get(0, "get " + deep.replace('(', '-') + deep.replace('(', '!') + "7 from t top 1", "1");
        d.fault(0, "get (@) from t").fault(0, "get (1 @from t").fault(0, "get 1@) from t").fault(0, "get 1+ @from t").fault(0, "get @*1 from t");
        d.fault(0, "get 1 @2 from t").fault(0, "get a @known b from t").fault(0, "get a@! from t").fault(0, "get (a@,b) from t").fault(0, "get @next from t");
    }

    private static void order() {
        Desk d = new Desk("order");
        d.say(0, "table t(a key,b num,c num)", 1).say(0, "put t(1,5,none)", 1).say(0, "put t(2,none,1)", 1).say(0, "put t(3,5,-1)", 1);
        d.say(0, "put t(4,-2,1)", 1);
        d.get(0, "get b,c from t", "- 1;-2 1;5 -;5 -1").get(0, "get b,c from t up 2", "5 -;5 -1;- 1;-2 1").get(0, "get b,c from t down 1", "5 -;5 -1;-2 1;- 1");
        d.get(0, "get b,c from t down 2", "- 1;-2 1;5 -1;5 -").get(0, "get c from t top 3", "-;-1;1").get(0, "get 1 from t", "1;1;1;1");
        d.get(0, "get c from t top 0", "").get(0, "get c from t top 999999999", "-;-1;1;1").get(0, "get all from t down 1 top 2", "4 -2 1;3 5 -1");
        d.get(0, "get b from t if c", "-;-2;5").get(0, "get a from t if none", "");
        d.get(0, "get all from t join t on c=c if b<0", "4 -2 1 2 - 1;4 -2 1 4 -2 1");
        d.say(0, "table u(x key,a num)", 2).say(0, "put u(4,100)", 1).say(0, "put u(5,3)", 1);
        d.get(0, "get a,x from t join u on a=x", "4 4").get(0, "get a,x from t join u on a=a", "3 5").get(0, "get all from u join t on a=a", "5 3 3 5 -1");
    }

    private static void tooMany() {
        Desk d = new Desk("too many");
        d.say(0, "table t(a key,b num)", 1);
        for (int i = 1; i <= 12; i++) {
            d.say(0, "put t(" + i + ",1)", 1);
        }
        d.refused(0, "put t(13,1)", 'f').say(0, "get a from t join t on b=b", 144).say(0, "table u(a key,b num)", 2).say(0, "get 7 from t", 12);
        for (int i = 1; i <= 12; i++) {
            d.enter(1, 0).say(1, "put u(" + i + ",1)", 1);
        }
        d.enter(1, 16).say(1, "put t(13,1)", 1).say(1, "get a from t join t on b=b", "UnsupportedOperationException");
        d.due("reason", () -> d.house.reason(1), 'm').due("rows", () -> d.house.rows(1), 0).audit(1, 16, 'r', 1);
        d.say(1, "get a from t join t on b=b top 150", 150).say(1, "get a from t join t on b=b top 151", "UnsupportedOperationException");
        d.due("kept", () -> d.house.rows(1), 150).due("last", () -> d.house.cell(1, 149, 0), 12).say(1, "get a from t join t on b=b top 3", 3);
        d.get(1, "get count from t join t on b=b", "169").get(1, "get count,a from t join t on b=b by a down 2 top 2", "13 13;13 12");
        d.get(1, "get a,count,sum(b) from t join t on b=b by a", "1 13 13;2 13 13;3 13 13;4 13 13;5 13 13;6 13 13;7 13 13;8 13 13;9 13 13;10 13 13;"
                + "11 13 13;12 13 13;13 13 13");
        d.get(1, "get a from t join u on b=b if a>11", "12;12;12;12;12;12;12;12;12;12;12;12;13;13;13;13;13;13;13;13;13;13;13;13");
    }

    private static Desk withTwelve() {
        Desk d = new Desk("wide");
        d.say(0, "table t(a key,b num)", 1);
        for (int i = 12; i >= 1; i--) {
            d.say(0, "put t(" + i + ",1)", 1);
        }
        return d;
    }

    private static void wide() {
        for (String order : new String[] {"", " down 1"}) {
            Desk d = withTwelve();
            d.say(0, "get a,b,a*2 from t join t on b=b" + order, 144);
            for (int i = 0; i < 144; i++) {
                int row = i;
                int key = order.isEmpty() ? i / 12 + 1 : 12 - i / 12;
                d.due("a", () -> d.house.cell(0, row, 0), key).due("b", () -> d.house.cell(0, row, 1), 1);
                d.due("a*2", () -> d.house.cell(0, row, 2), key * 2);
            }
        }
        Desk d = withTwelve();
        String ones = "1";
        String want = "1";
        for (int i = 1; i < 53; i++) {
            ones += ",1";
            want += " 1";
        }
        d.get(0, "get" + ones + "from t top 1", want).get(0, "get sum(-333333333),sum(333333333) from t if a<4", "-999999999 999999999");
        d.get(0, "get sum(-333333334),sum(333333334) from t if a<4", "- -").get(0, "get sum(b-2),most(-a),least(none) from t", "-12 -1 -");
        String blanks = " ".repeat(120 - "cut t if".length() - "none".length());
        d.say(0, "cut t if" + blanks + "none", 0).say(0, "cut t if" + blanks + "1111", 12).fault(0, "cut t if" + blanks + "   @+").fault(0, "cut t if" + blanks + "   -");
    }

    private static void tables() {
        Desk d = new Desk("tables");
        d.fault(0, "table").fault(0, "table t").fault(0, "table t(").fault(0, "table t(@)").fault(0, "table t(a@)").fault(0, "table t(a @numb)");
        d.fault(0, "table t(a @num)").fault(0, "table t(a key,b @key)").fault(0, "table t(a key,b @auto)").fault(0, "table t(a @uniq,a num)");
        d.fault(0, "table t(a key,@a num)").fault(0, "table t(a key,b num,c num,d num,e num,@f num)").fault(0, "table t(a key,b ref @zz)");
        d.fault(0, "table t(a key,b ref @t)").fault(0, "table t(a @ref zz)").fault(0, "table @get(a key)").fault(0, "table t(@key key)");
        d.fault(0, "table t(a key) if @b").fault(0, "table t(a key) if").fault(0, "table t(a key) @by a").fault(0, "table t(a key,f num").say(0, "table f(a key)", 1);
        d.say(0, "table t(a key,b num,c uniq,d ref f,e num) if label=0", 2).refused(0, "table t(a key)", 't').say(0, "table u(a auto)", 3);
        d.refused(0, "table v(a key)", 't').enter(1, 1).say(1, "table t(a key)", 1).refused(1, "drop u", 't').fault(0, "drop @v").say(0, "drop u", 1);
        d.begin(0, 0).refused(0, "table v(a key)", 't').refused(0, "drop t", 't').giveUp(0, 0).say(0, "drop t", 1).fault(0, "drop @t");
        d.say(1, "put t(5)", 1).say(1, "drop t", 1).fault(1, "get all from @t").seen(1, 0).fault(0, "table t(a@");
    }

    private static void puts() {
        Desk d = new Desk("puts");
        d.say(0, "table t(a key,b uniq) if a>b|!known b", 1).say(0, "table n(a auto,b ref t)", 2);
        d.fault(0, "put t(1@)").fault(0, "put t(1,2,@3)").fault(0, "put t(1,2,@next)").fault(0, "put t(@next,1)").fault(0, "put t(1,@next)").fault(0, "put t(@a,1)");
        d.fault(0, "put t(1,@label)").fault(0, "put n(@1,2)").fault(0, "put n(@(1),2)").fault(0, "put n(next@+1,2)").fault(0, "put n(next,@next)").fault(0, "put t(1+@next,1)");
        d.fault(0, "put t(1,2) @if 1").fault(0, "put t@").fault(0, "put t(@)").fault(0, "put t(@count)").fault(0, "put n(@1)").fault(0, "put zz(1+@next)").fault(0, "put @zz(next,next)");
        d.refused(0, "put t(none,none)", 'n').refused(0, "put t(1/0,5)", 'n').say(0, "put t(5,none)", 1).say(0, "put t(6,none)", 1).say(0, "put t(3,1)", 1);
        d.refused(0, "put t(5,1)", 'k').refused(0, "put t(7,1)", 'u').refused(0, "put t(7,8)", 'c').refused(0, "put n(next,9)", 'r').say(0, "put n(next,5)", 1);
        d.get(0, "get all from n", "64 5").say(0, "put n(next,none)", 1).begin(0, 5).say(0, "put n(next,3)", 1).giveUp(0, 1).say(0, "put n(next,3)", 1);
        d.get(0, "get a from n", "64;128;256").enter(1, 17).say(1, "put n(next,none)", 1).get(1, "get a from n if label=17", "81");
        d.enter(2, 17).begin(2, 7).begin(1, 7).say(1, "put n(next,6)", 1).say(2, "put n(next,6)", 1).end(2, 1).end(1, 1);
        d.get(1, "get a from n if label=17", "81;145;209").get(1, "get all from t", "3 1;5 -;6 -");
    }

    private static void sets() {
        Desk d = new Desk("sets");
        d.say(0, "table t(a key,b num,c uniq) if b#7", 1).say(0, "put t(1,1,1)", 1).say(0, "put t(2,2,2)", 1);
        d.fault(0, "set t").fault(0, "set t b").fault(0, "set t b=").fault(0, "set t b=1,").fault(0, "set t @a=1").fault(0, "set t b=1,@b=2").fault(0, "set t @q=1");
        d.fault(0, "set t b=@q").fault(0, "set t b=1 if @q").fault(0, "set t b=1 @by a").fault(0, "set @zz a=1,a=2").fault(0, "set t b=@count").fault(0, "set t b=1=1@=1");
        d.say(0, "set t b=c+10,c=b+20", 2).get(0, "get all from t", "1 11 21;2 12 22").refused(0, "set t c=5", 'u').refused(0, "set t b=7 if a=1", 'c');
        d.say(0, "set t b=none if a=9", 0).refused(0, "set t b=none", 'c').say(0, "set t c=none", 2).get(0, "get all from t", "1 11 -;2 12 -");
        d.enter(1, 16).say(1, "set t b=label if a=1", 1).get(1, "get all from t", "1 0 -;2 12 -").get(0, "get all from t", "1 11 -;2 12 -");
        d.get(1, "get each label,b from t", "0 11;0 12;16 0").say(0, "set t b=50", 2).get(1, "get all from t", "1 0 -;2 50 -");
    }

    private static void covers() {
        Desk d = new Desk("covers");
        d.enter(1, 1).enter(2, 2).enter(3, 3).enter(4, 4).say(0, "table t(a key,b num)", 1).say(0, "put t(1,0)", 1).say(1, "set t b=1", 1).say(2, "set t b=2", 1);
        d.get(3, "get label,b from t", "1 1;2 2").get(0, "get b from t", "0").get(4, "get b from t", "0").seen(3, 2).say(3, "set t b=b*10 if b<3", 1);
        d.get(3, "get label,b from t", "3 20").say(3, "cut t", 1).get(3, "get all from t", "").due("veil", () -> d.house.veilShare(3), 1f / 4f);
        d.say(3, "put t(1,9)", 1).get(3, "get b from t", "9").due("no veil", () -> d.house.veilShare(3), 0f).say(3, "cut t", 1).say(2, "cut t", 1).say(1, "cut t", 1);
        d.get(3, "get b from t", "").say(0, "cut t", 1).seen(0, 0).due("veils alone", () -> d.house.veilShare(3), 1f).say(3, "put t(1,8)", 1).say(3, "cut t", 1);
        d.due("no row below", () -> d.house.veilShare(3), 1f).due("two veils", () -> d.house.checksum(3), sum3()).say(0, "put t(1,5)", 1).seen(1, 0).seen(3, 0).seen(4, 1);
        d.enter(5, 8).begin(5, 1).say(5, "cut t if b=5", 1).seen(5, 0).say(5, "put t(1,6)", 1).end(5, 1).get(5, "get b from t", "6").say(5, "cut t if b=5", 0);
    }

    private static long sum3() {
        long s = 7;
        for (long p : new long[] {3, 't', 0, 2}) {
            s = 31 * s + p;
        }
        return s;
    }

    private static void refs() {
        Desk d = new Desk("references");
        d.say(0, "table t(a key)", 1).say(0, "table u(a key,b ref t)", 2).say(0, "table v(a key,b ref u,c ref t)", 3).enter(1, 16);
        d.say(0, "put t(1)", 1).say(0, "put u(1,1)", 1).refused(0, "put u(2,2)", 'r').say(0, "put u(2,none)", 1).say(0, "put v(1,1,none)", 1).say(0, "put v(2,2,1)", 1).seen(0, 5);
        d.say(1, "cut t", 1).seen(1, 1).get(1, "get a from u", "2").get(1, "get a from v", "").get(1, "get each a from v", "1;2").seen(0, 5).refused(1, "put v(3,1,none)", 'r');
        d.say(1, "cut u if a=1", 0).say(1, "cut u", 1).say(1, "cut v", 0).seen(1, 0).say(1, "put t(1)", 1).seen(1, 3).say(0, "cut t", 1).seen(0, 1).seen(1, 3);
        d.enter(2, 32).say(2, "table t(a key)", 1).say(2, "table w(a key,b ref t)", 2).say(2, "put t(8)", 1).refused(2, "put w(1,1)", 'r').say(2, "put w(1,8)", 1);
        d.say(2, "drop t", 1).get(2, "get all from w", "").say(2, "table t(a key)", 2).say(2, "put t(8)", 1).get(2, "get all from w", "").refused(2, "put w(2,8)", 'r');
        d.say(2, "put w(3,none)", 1).get(2, "get all from w", "3 -").say(2, "cut w", 1).get(2, "get each all from w", "1 8");
        d.enter(3, 63).get(3, "get a from t", "8").fault(3, "get a from t join t on a=@b");
    }

    private static void lowers() {
        Desk d = new Desk("lower");
        d.enter(1, 17).enter(2, 1).enter(3, 16).say(2, "table t(a key,b uniq) if b<5|!known b", 1).say(1, "put t(1,1)", 1).say(1, "put t(2,2)", 1);
        d.fault(1, "lower t 1").fault(1, "lower t 1 to").fault(1, "lower t @a to 1").fault(1, "lower t 1 to @label").fault(1, "lower t @to 1").fault(1, "lower t 1 to 1 @to");
        d.fault(1, "lower @zz 1 to 1").fault(3, "lower @t 1 to 1").refused(1, "lower t none to 99", 'n').refused(1, "lower t 1 to 99", 'l').refused(1, "lower t 1 to 17", 'l');
        d.refused(1, "lower t 1 to 0", 'l').refused(1, "lower t 1 to 16", 'l').refused(1, "lower t 1 to none", 'l').refused(1, "lower t 1 to -1", 'l').refused(1, "lower t 3 to 1", 'k');
        d.refused(1, "lower t 1 to 64", 'l').refused(2, "lower t 1 to 0", 'l').say(1, "lower t 1 to 1", 1).get(2, "get all from t", "1 1").get(1, "get each label,a from t", "1 1;17 1;17 2");
        d.say(2, "put t(7,2)", 1).say(1, "lower t 2 to 2-1", 1).get(2, "get all from t", "1 1;2 2;7 2").refused(2, "put t(8,0)", 'u').refused(2, "cut t if a=1", 'u').refused(2, "cut t if 0", 'u');
        d.say(2, "cut t if a=2", 1).say(2, "put t(8,0)", 1).begin(2, 3).say(2, "set t b=4 if a=1", 1).say(1, "lower t 1 to 1", 1).endRefused(2, 'x').get(2, "get all from t", "1 1;7 2;8 0");
        d.begin(1, 4).refused(1, "lower t 1 to 1", 't').refused(1, "lower t 9 to 1", 'k').refused(1, "lower t none to 1", 'n').refused(1, "lower t 9 to 3", 'l').giveUp(1, 0);
        for (int i = 0; i < 9; i++) {
            d.say(2, "put t(" + (20 + i) + ",none)", 1);
        }
        d.refused(1, "lower t 2 to 1", 'f').say(1, "lower t 1 to 1", 1).say(1, "cut t if a=1", 1).refused(1, "lower t 1 to 1", 'k');
        d.enter(4, 1).begin(4, 12).say(4, "cut t if a=20", 1).begin(1, 12).refused(1, "lower t 2 to 1", 'f').end(4, 1).refused(1, "lower t 2 to 1", 'f');
        d.giveUp(1, 0).say(1, "lower t 2 to 1", 1).seen(2, 12);
    }

    public static void main(String[] args) {
        tokens();
        firstFault();
        grouping();
        expressions();
        order();
        tooMany();
        wide();
        tables();
        puts();
        sets();
        covers();
        refs();
        lowers();
        Desk.close("LanguageTest");
    }
}
