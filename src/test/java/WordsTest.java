import java.util.List;

/** The sentences of the parts 4 and 5 that name an edge or a fault: tokens, expressions, faults, answers. */
public final class WordsTest {
    private static final String[] WORDS = ("get each all from join on if by up down top put next set cut table drop key auto num uniq ref lower"
            + " to label count sum least most none known").split(" ");
    private static final String MARKS = "(),=#<>+-*/%&|!";

    /** Tables t(a key,b num,c num), u(x key,a num) and n(a auto,b num), with rows in the first two. */
    private static Desk withTables(String title) {
        Desk d = new Desk(title);
        d.say(0, "table t(a key,b num,c num)", 1).say(0, "table u(x key,a num)", 2).say(0, "table n(a auto,b num)", 3);
        return d.say(0, "put t(1,10,none)", 1).say(0, "put t(2,-7,3)", 1).say(0, "put u(2,5)", 1);
    }

    /** What an expression without columns is, or the fault that it has at '@'. */
    private static void is(String expression, String want) {
        withTables("expressions").get(0, "get " + expression + " from t top 1", want);
    }

    /** "words, letters a to z, 6 at most; numbers, digits, 9 at most", "A longer word or number .. is no token" */
    private static void lengthsOfTokens() {
        Desk d = new Desk("lengths of tokens").say(0, "table abcdef(uvwxyz key)", 1).say(0, "put abcdef(123456789)", 1).get(0, "get uvwxyz from abcdef", "123456789");
        d.fault(0, "get all from @abcdefg").fault(0, "get @uvwxyza from abcdef").fault(0, "put abcdef(@1234567890)").fault(0, "put abcdef(@0000000001)");
        d.say(0, "put abcdef(000000001)", 1).get(0, "get uvwxyz from abcdef", "1;123456789").fault(0, "put abcdef(1@a)").fault(0, "get uvwxyz from abcdef@1");
        d.fault(0, "@tablet abcdef(a key)").fault(0, "@" + "a".repeat(120)).fault(0, "@" + "1".repeat(120)).fault(0, "get@" + "1".repeat(117));
    }

    /** "blanks (32) between them being of no meaning": but they part what would be one token. */
    private static void blanks() {
        Desk d = withTables("blanks").get(0, "get a,b from t if a=1 up 1 top 5", "1 10").get(0, "get  a , b  from  t  if  a = 1  up  1  top  5  ", "1 10");
        d.get(0, "get a,b from t if(a)=1up 1top 5", "1 10").get(0, "    get a,b from t if(a)=1up 1top 5", "1 10").fault(0, "@g et a from t");
        d.fault(0, "get a from t top 1 @2").fault(0, "get a @b from t").fault(0, "@geta from t").fault(0, "get a from @").fault(0, "get a from    @").fault(0, "     @");
        d.fault(0, "get1,2from@1").get(0, "get 1-1,2 - 1 from t top 1", "0 1").fault(0, "get afrom @t").fault(0, "@getall from t");
    }

    /** "or another sign, is no token" */
    private static void otherSigns() {
        for (char sign = 33; sign <= 126; sign++) {
            boolean isToken = sign >= 'a' && sign <= 'z' || sign >= '0' && sign <= '9' || MARKS.indexOf(sign) >= 0;
            if (!isToken && sign != '@') {
                withTables("sign " + sign).fault(0, "get a from t if 1 @" + sign).fault(0, "@" + sign).fault(0, "get a@" + sign + "b from t").fault(0, "put t(@" + sign)
                        .fault(0, "get a from t@" + sign + "1").fault(0, "get 1@" + sign + "2 from t");
            }
        }
        withTables("sign @").say(0, "get a from t if 1 @", -1 - 18).say(0, "@", -1).say(0, "get 1@2 from t", -1 - 5).say(0, "get a@b from t", -1 - 5);
    }

    /** "The words get each all .. known are no names." */
    private static void wordsAreNoNames() {
        for (String word : WORDS) {
            Desk d = withTables("word " + word).fault(0, "drop @" + word).fault(0, "table @" + word + "(a key)").fault(0, "table w(@" + word + " key)").fault(0, "put @" + word + "(1)");
            d.fault(0, "table w(a key,b ref @" + word + ")").fault(0, "set t @" + word + "=1").fault(0, "cut @" + word).fault(0, "lower @" + word + " 1 to 1");
            d.fault(0, "get all from @" + word).fault(0, "get count from t by @" + word).fault(0, "get all from t join @" + word + " on a=x");
            d.fault(0, "get all from t join u on @" + word + "=x").fault(0, "get all from t join u on a=@" + word);
        }
        for (String word : WORDS) {
            boolean isWhole = word.equals("none") || word.equals("label");
            String asOperand = word.equals("known") ? "put t(1+known @,2,3)" : isWhole ? "put t(1+" + word + ",@)" : "put t(1+@" + word + " 1,2,3)";
            Desk d = withTables("place of " + word).fault(0, "put t(1 @" + word + " 2,3,4)").fault(0, "cut t if (1 @" + word + " 2)").fault(0, "set t b=(1 @" + word + " 2)");
            d.fault(0, word.equals("from") ? "get 1 from @2" : "get 1 @" + word + " 2 from t").fault(0, asOperand);
        }
        for (String name : new String[] {"end", "begin", "not", "or", "and", "tables", "keys", "gets", "fro", "lowe", "x", "nothin", "labels"}) {
            new Desk("name " + name).say(0, "table " + name + "(" + name + " key)", 1).say(0, "put " + name + "(3)", 1).get(0, "get " + name + " from " + name, "3");
        }
    }

    /** Statements that are without a fault; they could end ahead of each '~', and nowhere else. */
    private static final String[] WHOLE = {
        "get each count,sum(b*2),least(-b) from t ~join u on a=x ~if a~>1~|!b~&known c ~by a~,x ~down 2 ~top 3",
        "get a,label,(b+none)%2 from t ~if (a=1)~-1 ~up 2 ~top 4",
        "get all from t ~by a ~",
        "table v(p key,q num,r uniq,s ref t) ~if p~>0~&label~<99",
        "drop t~",
        "put t(1+2*3,none,-(4))~",
        "put n(next,5)~",
        "set t b=b~+1~,c=(c) ~if a~#2",
        "cut t ~if !known b",
        "lower t 1+0 to 16~-16"};

    /** "the length of the text if more must come" */
    private static void moreMustCome() {
        for (String marked : WHOLE) {
            String text = marked.replace("~", "");
            for (Model.Token token : Model.tokens(text)) {
                String part = text.substring(0, token.place());
                if (!canEnd(marked, part.length())) {
                    withTables("more must come").fault(0, part).fault(0, part + "   ");
                }
            }
        }
        for (String marked : WHOLE) {
            for (int at = marked.indexOf('~'); at >= 0; at = marked.indexOf('~', at + 1)) {
                String part = marked.substring(0, at).replace("~", "");
                Desk d = withTables("may end").write(0, part);
                d.due("'" + part + "' is no fault", () -> part.contains("by") ? 0 : Math.min(told(d), 0), 0);
            }
        }
    }

    private static int told(Desk d) {
        try {
            return d.house.run(0);
        } catch (UnsupportedOperationException e) {
            return 0;
        }
    }

    private static boolean canEnd(String marked, int place) {
        int passed = 0;
        for (int i = 0; i < marked.length() && passed <= place; i++) {
            if (marked.charAt(i) != '~') {
                passed++;
            } else if (passed == place) {
                return true;
            }
        }
        return passed <= place;
    }

    /** "the place, from 0, of the first sign of the first token that cannot stand there, or of what is no token" */
    private static void noTokenAnywhere() {
        for (String marked : WHOLE) {
            String text = marked.replace("~", "");
            for (Model.Token token : Model.tokens(text)) {
                String ahead = text.substring(0, token.place());
                String behind = text.substring(token.place());
                Desk d = withTables("no token").fault(0, ahead + "@$" + behind).fault(0, ahead + " @toolong " + behind);
                if (text.length() < 104) {
                    d.fault(0, ahead + " @1234567890 " + behind).fault(0, ahead + "  @_ " + behind + " $");
                }
            }
        }
    }

    /** "A statement is one of those below, and nothing behind it" */
    private static void nothingBehind() {
        for (String marked : WHOLE) {
            String text = marked.replace("~", "") + " ";
            Desk d = withTables("nothing behind").fault(0, text + "@t").fault(0, text + "@get").fault(0, text + "@)").fault(0, text + "@none");
            d.fault(0, text + "@from t").fault(0, text + "@put").fault(0, text + "@(").due("none was done", () -> d.house.tables(0), 3).seen(0, 3);
        }
    }

    /** "with | between; with & between; two, and no third one, with one of = # < > between; + or -; *, / or %; -, ! or known" */
    private static void bonds() {
        String[][] all = {{"0&0|1", "1"}, {"1|0&0", "1"}, {"0&(0|1)", "0"}, {"1=0&0", "0"}, {"1=(0&0)", "0"}, {"0=0&0", "0"}, {"0=(0&0)", "1"}, {"0&0=0", "0"},
            {"1<1+1", "1"}, {"(1<1)+1", "1"}, {"2>1+1", "0"}, {"1+1=2", "1"}, {"2=1+1", "1"}, {"3#1+1", "1"}, {"1+2*3", "7"}, {"2*3+1", "7"}, {"10-4/2", "8"}, {"10-7%4", "7"},
            {"-3+5", "2"}, {"-3*5", "-15"}, {"3*-5", "-15"}, {"-7/2", "-4"}, {"-(7/2)", "-3"}, {"-7%2", "1"}, {"-(7%2)", "-1"}, {"!0+1", "2"}, {"!(0+1)", "0"}, {"!1=1", "0"}, {"!0&0", "0"},
            {"known none+1", "1"}, {"known (none+1)", "0"}, {"known none=none", "0"}, {"- - -4", "-4"}, {"!!!4", "0"}, {"!-!4", "1"}, {"known known none", "1"}, {"-known none", "0"},
            {"10-3-2", "5"}, {"10-(3-2)", "9"}, {"100/10/5", "2"}, {"100/(10/5)", "50"}, {"20%7%4", "2"}, {"20%(7%4)", "2"}, {"2*7%4", "2"}, {"2*(7%4)", "6"}, {"7/2*2", "6"}, {"7*2/2", "7"},
            {"8%3*2", "4"}, {"8-3+2", "7"}, {"0|0|1", "1"}, {"1&1&0", "0"}, {"1<2|1<2", "1"}, {"(1<2)<2", "1"}, {"1<(2<2)", "0"}};
        for (String[] one : all) {
            is(one[0], one[1]);
        }
        for (char first : "=#<>".toCharArray()) {
            for (char second : "=#<>".toCharArray()) {
                withTables("no third one").fault(0, "get 1" + first + "2@" + second + "3 from t").fault(0, "get a+1" + first + "2*b@" + second + "3 from t").fault(0, "get 1" + first + "-2+b@" + second + "3 from t").say(0, "get 1" + first + "2&2" + second + "3 from t", 2);
            }
        }
    }

    /** "cut down to the next lower whole number", "what is left by that", "nothing if .. by 0", "no number of part 2" */
    private static void numbers() {
        String[][] all = {{"7/2", "3"}, {"-7/2", "-4"}, {"7/-2", "-4"}, {"-7/-2", "3"}, {"-1/999999999", "-1"}, {"1/999999999", "0"}, {"6/3", "2"}, {"-6/3", "-2"}, {"0/-3", "0"},
            {"7%2", "1"}, {"-7%2", "1"}, {"7%-2", "-1"}, {"-7%-2", "-1"}, {"6%3", "0"}, {"-6%3", "0"}, {"-1%999999999", "999999998"}, {"1%-999999999", "-999999998"}, {"5%1", "0"},
            {"5/0", "-"}, {"5%0", "-"}, {"0/0", "-"}, {"0%0", "-"}, {"5/(1-1)", "-"}, {"none/0", "-"}, {"none%2", "-"}, {"2/none", "-"}, {"none*0", "-"}, {"0*none", "-"}, {"none-none", "-"},
            {"999999999+0", "999999999"}, {"999999999+1", "-"}, {"999999998+1", "999999999"}, {"-999999999-0", "-999999999"}, {"-999999999-1", "-"}, {"-999999998-1", "-999999999"},
            {"999999999-(-1)", "-"}, {"999999999--1", "-"}, {"999999999+999999999", "-"}, {"999999999*999999999", "-"}, {"-999999999*999999999", "-"}, {"99999*10000", "999990000"},
            {"100000*10000", "-"}, {"-100000*10000", "-"}, {"333333333*3", "999999999"}, {"333333334*3", "-"}, {"-333333333*3", "-999999999"}, {"65536*65536", "-"}, {"999999999/-1", "-999999999"},
            {"999999999+1-1", "-"}, {"999999999-1+1", "999999999"}, {"-999999999", "-999999999"}, {"--999999999", "999999999"}, {"1000000*1000-1", "-"}};
        for (String[] one : all) {
            is(one[0], one[1]);
        }
    }

    /** "= # < > are 1 if both sides are numbers that are like ..", "A number but 0 is true." */
    private static void truths() {
        String[][] all = {{"3=3", "1"}, {"3=4", "0"}, {"none=none", "0"}, {"none=0", "0"}, {"0=none", "0"}, {"3#3", "0"}, {"3#4", "1"}, {"none#none", "0"}, {"none#0", "0"}, {"0#none", "0"},
            {"3<4", "1"}, {"3<3", "0"}, {"4<3", "0"}, {"none<1", "0"}, {"-1<none", "0"}, {"4>3", "1"}, {"3>3", "0"}, {"3>4", "0"}, {"1>none", "0"}, {"none>-1", "0"}, {"-5<-4", "1"}, {"-999999999<999999999", "1"},
            {"0|0", "0"}, {"0|-1", "1"}, {"7|0", "1"}, {"7|8", "1"}, {"none|none", "0"}, {"none|3", "1"}, {"3|none", "1"}, {"0&1", "0"}, {"1&0", "0"}, {"7&-8", "1"}, {"none&1", "0"}, {"1&none", "0"},
            {"2&1", "1"}, {"!0", "1"}, {"!1", "0"}, {"!-1", "0"}, {"!none", "1"}, {"!999999999", "0"}, {"known 0", "1"}, {"known -1", "1"}, {"known none", "0"}, {"known (1/0)", "0"}, {"known (none=none)", "1"}};
        for (String[] one : all) {
            is(one[0], one[1]);
        }
        Desk d = withTables("conditions").get(0, "get a from t if 0", "").get(0, "get a from t if none", "").get(0, "get a from t if -1", "1;2").get(0, "get a from t if b", "1;2");
        d.get(0, "get a from t if c", "2").get(0, "get a from t if 999999999+1", "").get(0, "get a from t if !c", "1").get(0, "get a from t if c=c", "2").get(0, "get a from t if a-1", "2");
    }

    /** "label is the label of the row, of two rows their join" */
    private static void labels() {
        Desk d = withTables("labels").enter(1, 17).enter(2, 34).enter(3, 63).say(1, "put t(3,1,1)", 1).say(2, "put u(3,1)", 1).say(2, "set t c=label*100+a if a=2", 1);
        d.get(3, "get label,a from t", "0 1;17 3;34 2").get(3, "get label,a,x from t join u on a=x", "34 2 2;35 3 3").get(3, "get x from t join u on a=x if label=35", "3");
        d.get(3, "get sum(label),count from t", "51 3").get(2, "get c from t if a=2", "2").get(3, "get label/16,label%16 from t if a=2", "2 2").fault(3, "get count from t by @label");
        d.fault(3, "get @label,count from t by a").fault(0, "put t(5,@label,1)").fault(0, "lower t @label to 0").fault(0, "lower t 1 to @label").fault(0, "put t(@a,b,c)");
    }

    /** "It is a fault to name a column that there is not": each where it stands, the first one told. */
    private static void columnsThatAreNot() {
        Desk d = withTables("columns that are not").fault(0, "get a,@q,z from t").fault(0, "get a from t if b&@q").fault(0, "get count from t by a,@q").fault(0, "get sum(@q) from t if q by q");
        d.fault(0, "get a from t join u on @q=x").fault(0, "get a from t join u on @x=x").fault(0, "get a from t join u on a=@b").fault(0, "get a from t join u on @q=q").fault(0, "get @q from t join u on q=q");
        d.fault(0, "set t @q=1").fault(0, "set t b=@q").fault(0, "set t b=a if @q").fault(0, "set t b=1,@q=1").fault(0, "cut t if @q").fault(0, "table w(a key) if @b").fault(0, "table w(a key,b num) if a+b*@c");
        d.get(0, "get x from t join u on a=x", "2").fault(0, "get @x from t").fault(0, "get a from t if @x").fault(0, "set t b=@x").fault(0, "set u @b=x").fault(0, "get x from u join t on x=@x");
    }

    /** "Names of tables are faults if there is no such table", "with a table that there is not, or one of two, no column is a fault" */
    private static void tablesThatAreNot() {
        Desk d = withTables("tables that are not").fault(0, "get q from @zz").fault(0, "get all from @zz up 9").fault(0, "get q from @zz if q by q up 1").fault(0, "get q from t join @zz on q=q");
        d.fault(0, "get q from @zz join t on q=q if q up 1").fault(0, "get q from @zz join yy on q=q").fault(0, "set @zz q=q,q=q if q").fault(0, "cut @zz if q").fault(0, "drop @zz");
        d.fault(0, "put @zz(1,2,3,4,5,6)").fault(0, "put @zz(a)").fault(0, "put @zz(next,next)").fault(0, "lower @zz a to label").fault(0, "table zz(a key,b ref @zz)").fault(0, "table w(a key,b ref @zz,c ref yy) if q");
        d.fault(0, "get count from @zz by q down 1 top 0").fault(0, "get a from t join @zz on a=q up 2").fault(0, "get @label,count from zz").fault(0, "get @all from zz by q").fault(0, "get @q,count from zz by w");
        d.fault(0, "get x from @zz join u on x=a").fault(0, "get x,count from @zz join u on x=x if x by x").fault(0, "get a,x,q from u join @zz on x=a if b").fault(0, "get @b,count from zz join t on b=b by a");
        d.fault(0, "drop @a").fault(0, "get a from @a").due("none was made", () -> d.house.tables(0), 3);
    }

    /** "if there is none of these, .. the first token that is told to be a fault": told ones come behind the others. */
    private static void toldFaultsComeLast() {
        Desk d = withTables("told faults come last").fault(0, "get q from zz @$").fault(0, "get q from zz if@").fault(0, "put zz(a,@*").fault(0, "set t a=1,a=@").fault(0, "table w(a num,a key@");
        d.fault(0, "get all from t by a up@").fault(0, "get a from t up 0 @from").fault(0, "get a from t up 0 top@").fault(0, "put t(1)@)").fault(0, "drop zz @zz").fault(0, "get @q from t up 9").fault(0, "get a,@q from zz by a");
    }

    /** "up or down and a number; .. the first one being 1, another number a fault" */
    private static void ordersTold() {
        Desk d = withTables("orders told").fault(0, "get a,b from t up @0").fault(0, "get a,b from t down @3").fault(0, "get a,b from t up @999999999").get(0, "get a,b from t up 1", "1 10;2 -7");
        d.get(0, "get a,b from t up 2", "2 -7;1 10").get(0, "get a,b from t down 1", "2 -7;1 10").get(0, "get a,b from t down 2", "1 10;2 -7").get(0, "get all from t up 3", "1 10 -;2 -7 3");
        d.fault(0, "get all from t up @4").fault(0, "get all from t down @0").get(0, "get all from t down 3", "2 -7 3;1 10 -").get(0, "get all from t join u on a=x up 5", "2 -7 3 2 5");
        d.fault(0, "get all from t join u on a=x up @6").fault(0, "get all from u join t on x=a down @6").fault(0, "get count from t up @2").get(0, "get count from t up 1", "2").get(0, "get a from t down 000000001", "2;1");
        d.fault(0, "get a from t up @-1").fault(0, "get a from t up @a").fault(0, "get a from t up@").fault(0, "get a from t down @").fault(0, "get a from t up @(1)").fault(0, "get all from u up @3");
    }

    /** "then of the first item, the second one, and so on; nothing counts as less than all numbers" */
    private static void ordersOfRows() {
        Desk d = withTables("orders of rows").say(0, "put t(3,10,-5)", 1).say(0, "put t(4,none,none)", 1).say(0, "put t(5,-999999999,3)", 1);
        d.get(0, "get b,c from t", "- -;-999999999 3;-7 3;10 -;10 -5").get(0, "get c,b from t", "- -;- 10;-5 10;3 -999999999;3 -7").get(0, "get b,c from t down 1", "10 -;10 -5;-7 3;-999999999 3;- -");
        d.get(0, "get b,c from t down 2", "-999999999 3;-7 3;10 -5;- -;10 -").get(0, "get b,c from t up 2", "- -;10 -;10 -5;-999999999 3;-7 3").get(0, "get c,a from t up 1", "- 1;- 4;-5 3;3 2;3 5");
        d.get(0, "get 0,c from t", "0 -;0 -;0 -5;0 3;0 3").get(0, "get c from t down 1", "3;3;-5;-;-").get(0, "get c,0-a from t down 1", "3 -5;3 -2;-5 -3;- -4;- -1");
    }

    /** "top leaves the first ones, so many" */
    private static void tops() {
        Desk d = withTables("tops");
        d.get(0, "get a from t top 0", "").due("a column", () -> d.house.columns(0), 1).get(0, "get a from t top 1", "1").get(0, "get a from t top 2", "1;2");
        d.get(0, "get a from t top 3", "1;2").get(0, "get a from t top 999999999", "1;2").get(0, "get a from t down 1 top 1", "2").get(0, "get count from t top 0", "").get(0, "get count,a from t by a top 1", "1 1");
        d.fault(0, "get a from t top @none").fault(0, "get a from t top @-1").fault(0, "get a from t top").get(0, "get a from t top 000000000", "").get(0, "get sum(b) from t top 1", "3");
    }

    /** Thirteen rows that a session sees in each of two tables, 12 of them its own at label 0. */
    private static Desk withPairs() {
        Desk d = new Desk("pairs").enter(1, 16).say(0, "table t(a key,b num)", 1).say(0, "table u(x key,y num)", 2);
        for (int i = 1; i <= 13; i++) {
            d.say(i < 13 ? 0 : 1, "put t(" + i + ",1)", 1).say(i < 13 ? 0 : 1, "put u(" + i + ",1)", 1);
        }
        return d;
    }

    /** "More than 150 rows, behind top, are refused, 'm'." */
    private static void tooManyRows() {
        String all = "get a,x from t join u on b=y";
        Desk d = withPairs().say(0, all, 144).refused(1, all, 'm').say(1, all + " if a*13+x>32", 150).refused(1, all + " if a*13+x>31", 'm');
        d.due("rows", () -> d.house.rows(1), 150).due("first", () -> d.house.cell(1, 0, 0), 2).due("first", () -> d.house.cell(1, 0, 1), 7).due("last", () -> d.house.cell(1, 149, 1), 13);
        d.say(1, all + " top 150", 150).due("150th", () -> d.house.cell(1, 149, 0), 12).due("150th", () -> d.house.cell(1, 149, 1), 7).refused(1, all + " top 151", 'm').refused(1, all + " top 999999999", 'm');
        d.say(1, all + " down 2 top 150", 150).due("150th", () -> d.house.cell(1, 149, 0), 7).due("150th", () -> d.house.cell(1, 149, 1), 2).refused(1, all + " by a,x", 'm').say(1, all + " by a,x top 150", 150);
        d.say(1, all + " if a*13+x>32 by a,x", 150).refused(1, all + " if a*13+x>31 by x,a", 'm').say(1, "get a from t join u on b=y by a", 13).get(1, "get count from t join u on b=y", "169").say(1, all + " top 0", 0);
        d.audit(1, 16, 'r', 6).audit(1, 16, 'f', 0);
    }

    /** "on all pairs of such rows of both tables whose told columns hold like numbers" */
    private static void joins() {
        Desk d = withTables("joins").say(0, "put u(3,none)", 1).say(0, "put u(4,3)", 1).get(0, "get all from t join u on a=x", "2 -7 3 2 5").get(0, "get all from t join u on c=a", "2 -7 3 4 3");
        d.get(0, "get all from u join t on a=c", "4 3 2 -7 3").get(0, "get a,c from t join t on c=c", "2 3").get(0, "get count from t join u on b=a", "0").get(0, "get a from t join u on a=x if a=2", "2");
        d.get(0, "get a,x from u join t on x=a", "5 2").get(0, "get a,b from t join t on a=a", "1 10;2 -7").get(0, "get all from t join t on a=a", "1 10 - 1 10 -;2 -7 3 2 -7 3").say(0, "get all from t join t on a=a", 2).due("both", () -> d.house.columns(0), 6);
        d.get(0, "get a,count,sum(x) from t join u on a=x by a", "2 1 2").get(0, "get count from n join t on a=a", "0").get(0, "get count from t join n on a=a by a", "").get(0, "get 7 from t join n on a=b", "");
    }

    /** "with each, on all rows that are entries of it at or below the label" */
    private static void eachEntry() {
        Desk d = withTables("each").enter(1, 16).enter(2, 1).say(0, "table w(a key,b ref t)", "UnsupportedOperationException").say(0, "drop n", 1).say(0, "table w(a key,b ref t)", 3).say(0, "put w(1,1)", 1);
        d.say(1, "cut t if a=1", 1).say(1, "set t b=0", 1).say(2, "put t(9,9,9)", 1).get(1, "get label,a,b from t", "16 2 0").get(1, "get each label,a,b from t", "0 1 10;0 2 -7;16 2 0");
        d.get(1, "get all from w", "").get(1, "get each all from w", "1 1").get(1, "get each a,label from t join u on a=x", "2 0;2 16").get(1, "get count from t", "1").get(1, "get each count from t", "3");
        d.get(2, "get each a from t", "1;2;9").get(0, "get each a from t", "1;2").get(1, "get each a from w join t on b=a", "1").get(1, "get a from w join t on b=a", "").get(1, "get each count from t if b<0 by a", "1");
    }

    /** "rows are put together that hold alike in all columns of by, without by all, also if there are none" */
    private static void groups() {
        Desk d = withTables("groups").get(0, "get count,sum(b),least(b),most(b),5,none from n", "0 - - - 5 -").get(0, "get count from n by a", "").get(0, "get sum(a) from t if 0", "-").get(0, "get 5 from n", "");
        d.say(0, "put t(3,10,none)", 1).say(0, "put t(4,none,none)", 1).say(0, "put t(5,none,1)", 1).get(0, "get b,c,count from t by b,c", "- - 1;- 1 1;-7 3 1;10 - 2").get(0, "get c,count from t by c", "- 3;1 1;3 1");
        d.get(0, "get b,count from t by c,b", "- 1;- 1;-7 1;10 2").get(0, "get count from t by a", "1;1;1;1;1").get(0, "get sum(c),least(c),most(c) from t by b", "- - -;1 1 1;3 3 3");
        d.get(0, "get known b,count from t by b", "0 2;1 1;1 2").get(0, "get b+c*2 from t by b,c", "-;-;-;-1").get(0, "get 1 from t by c", "1;1;1").get(0, "get count from t by c down 1 top 2", "3;1").get(0, "get count,b from t by b,b,b", "1 -7;2 -;2 10");
    }

    /** "that hold alike in all columns of by": nothing alike as well, also where it is all that they hold. */
    private static void groupsOfNothing() {
        Desk d = withTables("groups of nothing").say(0, "set t c=none", 2).get(0, "get c,count from t by c", "- 2").get(0, "get c,count,sum(a) from t by c,c", "- 2 3").say(0, "put t(3,10,none)", 1);
        d.get(0, "get count,b,c from t by c,b", "1 -7 -;2 10 -").get(0, "get least(c),count from t by c", "- 3").say(0, "set t b=none", 3).get(0, "get b,c,count from t by b,c", "- - 3");
    }

    /** A hundred and more rows, put together ahead of all others that this house was asked for. */
    private static void manyRowsPutTogether() {
        withPairs().get(1, "get a,count,sum(x),most(x) from t join u on b=y by a top 3", "1 13 91 13;2 13 91 13;3 13 91 13");
        withPairs().get(1, "get count,sum(a*x),least(a-x),most(a-x) from t join u on b=y", "169 8281 -12 12");
        String few = ";# 11 88".repeat(6) + ";# 12 90".repeat(7);
        for (int x = 1; x <= 13; x++) {
            few = few.replaceFirst("#", "" + x);
        }
        withPairs().get(1, "get x,count,sum(a) from t join u on b=y if a*13+x>32 by x", few.substring(1)).get(1, "get sum(a),x from t join u on b=y if a*13+x>31 by x top 1", "88 1");
        withPairs().get(1, "get x,sum(a) from t join u on b=y by x down 1 top 2", "13 91;12 91").get(0, "get x,sum(a) from t join u on b=y by x top 2", "1 78;2 78");
    }

    /** "sum, least and most are of those that are numbers, nothing if there are none, or the sum is no number of part 2" */
    private static void sums() {
        Desk d = new Desk("sums").say(0, "table t(a key,b num)", 1).say(0, "put t(1,999999999)", 1).say(0, "put t(2,none)", 1).get(0, "get sum(b),least(b),most(b),count from t", "999999999 999999999 999999999 2");
        d.say(0, "put t(3,1)", 1).get(0, "get sum(b),least(b),most(b) from t", "- 1 999999999").say(0, "put t(4,-1)", 1).get(0, "get sum(b),least(b),most(b) from t", "999999999 -1 999999999");
        d.get(0, "get sum(-b),least(-b),most(-b) from t", "-999999999 -999999999 1").get(0, "get sum(-b) from t if a<4", "-").get(0, "get sum(b) from t if a>2", "0").get(0, "get sum(b),least(b),most(b) from t if a=2", "- - -");
        d.get(0, "get sum(b+1) from t if a=1", "-").get(0, "get sum(none),least(none),most(none) from t", "- - -").get(0, "get sum(known b),sum(1),sum(a) from t", "3 4 10").get(0, "get least(b<0),most(b<0) from t", "0 1");
        d.say(0, "set t b=999999999", 4).get(0, "get sum(b),count from t", "- 4").get(0, "get sum(b/4) from t", "999999996").get(0, "get sum(0-b) from t if a=1", "-999999999");
        d.get(0, "get least(b),most(b),most(-b),least(-b) from t", "999999999 999999999 -999999999 -999999999").get(0, "get most(a-9),least(a-9),most(a-8),least(a+7) from t", "-5 -8 -4 8");
    }

    /** "it is a fault then if all is told, or if a name of a column, or label, stands in an item outside of sum, least and most" */
    private static void groupedFaults() {
        Desk d = withTables("grouped faults").fault(0, "get @all from t by a").fault(0, "get each @all from t by a").fault(0, "get count,@a from t").fault(0, "get @a,count from t").fault(0, "get count,1+@a from t by b");
        d.fault(0, "get count,b+@a from t by b").fault(0, "get count,@label from t").fault(0, "get sum(b),1+@label from t").fault(0, "get a-@label,count from t by a").get(0, "get sum(label),a from t by a", "0 1;0 2").fault(0, "get @b from t by a").get(0, "get a,sum(b+c),count from t by a", "1 - 1;2 -4 1").get(0, "get a,sum(b) from t by a", "1 10;2 -7").fault(0, "get sum(b),@b from t by a").get(0, "get a+a*a from t by a", "2;6");
        d.get(0, "get sum(label) from t by a", "0;0").fault(0, "get count,sum(b),@b from t by a").fault(0, "get @x,count from t join u on a=x by a").get(0, "get x,count from t join u on a=x by x", "2 1").fault(0, "get count @all from t");
    }

    /** "all stands for all columns": it stands alone. */
    private static void allAlone() {
        Desk d = withTables("all").get(0, "get all from t", "1 10 -;2 -7 3").fault(0, "get all@,a from t").fault(0, "get a,@all from t").fault(0, "get all @all from t").fault(0, "get all@+1 from t").fault(0, "get (@all) from t");
        d.fault(0, "get @from t").fault(0, "get @").fault(0, "get each@").fault(0, "get each @each a from t").fault(0, "get a,@from t").fault(0, "get @,a from t").get(0, "get 5 from t", "5;5");
    }

    /** "in this order": parts that come too late, or twice, cannot stand there. */
    private static void orderOfParts() {
        String[] parts = {"join u on a=x", "if 1", "by a", "up 1", "top 1"};
        for (int i = 0; i < parts.length; i++) {
            for (int k = 0; k <= i; k++) {
                withTables("order of parts").fault(0, "get sum(b) from t " + parts[i] + " @" + parts[k]);
            }
            for (int k = i + 1; k < parts.length; k++) {
                withTables("order of parts").fault(0, "get sum(b) from t " + parts[i] + " " + parts[k] + " @$").fault(0, "get 1 from t " + parts[i] + " " + parts[k] + "@)");
            }
        }
        withTables("order of parts").fault(0, "get sum(b) from t up 1 @down 1").fault(0, "get sum(b) from t down 1 @up 1").fault(0, "get sum(b) from t if 1 @join u on a=x");
    }

    /** Brackets and signs ahead of an expression, "again and again", as many as the text holds. */
    private static void deep() {
        String name = "get all from t if ";
        int room = 120 - name.length();
        Desk d = withTables("deep").fault(0, name + "(".repeat(room)).fault(0, name + "-".repeat(room)).fault(0, name + "!".repeat(room)).fault(0, name + "(".repeat(room - 1) + "1").fault(0, name + "1@" + ")".repeat(room - 1));
        d.get(0, name + "!".repeat(100) + "1", "1 10 -;2 -7 3").get(0, name + "!".repeat(101) + "1", "").get(0, name + "-".repeat(101) + "1", "1 10 -;2 -7 3").get(0, name + "(".repeat(50) + "0" + ")".repeat(50), "");
        d.get(0, name + "(".repeat(49) + "a" + ")".repeat(49) + "=1", "1 10 -").get(0, name + "0" + "|(0".repeat(24) + "|1" + ")".repeat(24), "1 10 -;2 -7 3").get(0, name + "1" + "*1".repeat(50), "1 10 -;2 -7 3");
        d.get(0, name + "1" + "-1".repeat(40) + "+39", "").get(0, name + "(-".repeat(31) + "a" + ")".repeat(31) + "<-1", "2 -7 3").fault(0, name + "(".repeat(33) + "1" + ")".repeat(33) + "@)");
    }

    /** Items, as many as the text holds; each token of them is read. */
    private static void manyItems() {
        Desk d = withTables("many items");
        d.say(0, "get 1" + ",1".repeat(50) + " from t", 2).due("columns", () -> d.house.columns(0), 51).due("last", () -> d.house.cell(0, 1, 50), 1);
        d.due("behind", () -> d.house.cell(0, 1, 51), "IndexOutOfBoundsException").say(0, "get a" + ",a".repeat(50) + " from t up 51", 2).fault(0, "get a" + ",a".repeat(50) + " from t up @52");
        d.get(0, "get count from t by a" + ",a".repeat(45), "1;1").fault(0, "get count from t by a" + ",a".repeat(45) + ",@q").fault(0, "table w(a key,b num,@b num" + ",b num".repeat(13) + ")");
    }

    private static void all(List<Runnable> tests) {
        for (Runnable test : tests) {
            test.run();
        }
    }

    public static void main(String[] args) {
        all(List.of(WordsTest::lengthsOfTokens, WordsTest::blanks, WordsTest::otherSigns, WordsTest::wordsAreNoNames, WordsTest::moreMustCome, WordsTest::noTokenAnywhere,
                WordsTest::nothingBehind));
        all(List.of(WordsTest::bonds, WordsTest::numbers, WordsTest::truths, WordsTest::labels, WordsTest::columnsThatAreNot, WordsTest::tablesThatAreNot, WordsTest::toldFaultsComeLast));
        all(List.of(WordsTest::ordersTold, WordsTest::ordersOfRows, WordsTest::tops, WordsTest::tooManyRows, WordsTest::joins, WordsTest::eachEntry, WordsTest::groups, WordsTest::sums));
        all(List.of(WordsTest::groupsOfNothing, WordsTest::manyRowsPutTogether));
        all(List.of(WordsTest::groupedFaults, WordsTest::allAlone, WordsTest::orderOfParts, WordsTest::deep, WordsTest::manyItems));
        Desk.close("WordsTest");
    }
}
