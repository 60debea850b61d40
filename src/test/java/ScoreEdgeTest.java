/** Term IV's scores at their edges, and promises 20 to 23: scales, drift, means, and what claims make of numbers. */
public final class ScoreEdgeTest {
    private static final int[] FAR = {Edge.MIN, Edge.MIN + 1, -1000, Edge.MAX - 1, Edge.MAX};

    public static void main(String[] args) {
        meanRefused();
        driftRefused();
        scoredRefused();
        claimRefused();
        noScores();
        scaleAtFirstAndLast();
        rawLimits();
        ownLimits();
        ownOfWhatIsKnown();
        referenceAtFirstAndLast();
        driftWithoutScores();
        driftRoundsEachMean();
        firstSessionThatHasSome();
        driftByOwnScale();
        meanRoundsDown();
        greatestMeans();
        boundsOfSums();
        boundsOfDifferences();
        boundsOfProducts();
        quotients();
        fromTheLeftOn();
        signs();
        claimsInOrder();
        claimsOfNothingKnown();
        deepestClaims();
        Check.end();
    }

    private static TastingHouse planned(String text) {
        TastingHouse house = new TastingHouse();
        Check.write(house, text);
        Check.due("a plan of " + text, house.plan(0) > 0, true);
        return house;
    }

    /** "MEAN of a PRODUCT; NONE when there is none such, or CODES are shut." */
    private static void meanRefused() {
        for (int product : new int[] {-1, -2, 3, 4, 5, 6}) {
            Edge.refused("mean " + product, Edge::opened, h -> h.mean(product));
        }
        for (int far : FAR) {
            Edge.refused("mean " + far, Edge::opened, h -> h.mean(far));
        }
        Edge.refused("mean while shut", Edge::shut, h -> h.mean(0));
        TastingHouse house = planned("product a;product b;product c;product d;product e;product f;");
        house.score(0, 0, 5, 7);
        house.open();
        Check.due("the sixth", house.mean(5), 70);
        Check.due("no seventh", house.mean(6), -1);
    }

    /** "DRIFT of a SESSION; -1000000000 when there is none such, or CODES are shut." */
    private static void driftRefused() {
        for (int session : new int[] {-1, -2, 10, 11}) {
            Edge.refused("drift " + session, Edge::opened, h -> h.drift(session), -1000000000);
        }
        for (int far : FAR) {
            Edge.refused("drift " + far, Edge::opened, h -> h.drift(far), -1000000000);
        }
        Edge.refused("drift while shut", Edge::shut, h -> h.drift(0), -1000000000);
        Check.due("the first", Edge.opened().drift(0), 0);
        Check.due("the last", Edge.opened().drift(9), 0);
    }

    /** "NONE when there is none, or CODES are shut" */
    private static void scoredRefused() {
        int[][] wrong = {{-1, 0, 0}, {30, 0, 0}, {0, -1, 0}, {0, 10, 0}, {0, 0, -1}, {0, 0, 3}, {0, 1, 0}, {29, 9, 2}, {0, 0, 1},
            {1, 0, 0}, {-1, 1, 0}, {0, -1, 6}};
        for (int[] w : wrong) {
            Edge.refused("scored " + w[0] + " " + w[1] + " " + w[2], Edge::opened, h -> h.scored(w[0], w[1], w[2]));
        }
        for (int far : FAR) {
            Edge.refused("taster " + far, Edge::opened, h -> h.scored(far, 0, 0));
            Edge.refused("session " + far, Edge::opened, h -> h.scored(0, far, 0));
            Edge.refused("product " + far, Edge::opened, h -> h.scored(0, 0, far));
        }
        Edge.refused("scored while shut", Edge::shut, h -> h.scored(0, 0, 0));
        Check.due("there", Edge.opened().scored(0, 0, 0), 0);
    }

    /** "Whether a CLAIM holds: 1, 0; NONE when there is none such, or CODES are shut." */
    private static void claimRefused() {
        for (int k : new int[] {-1, -2, 3, 4, 7, 8}) {
            Edge.refused("claim " + k, Edge::opened, h -> h.claim(k));
        }
        for (int far : FAR) {
            Edge.refused("claim " + far, Edge::opened, h -> h.claim(far));
        }
        Edge.refused("claim while shut", Edge::shut, h -> h.claim(0));
        TastingHouse house = planned("product a;");
        house.open();
        Check.due("no claims", house.claim(0), -1);
    }

    /** "-1000000 without SCORES" */
    private static void noScores() {
        TastingHouse house = planned("product a;product b;claim c when mean a=0-1000*1000;claim d when mean b=0;");
        house.score(0, 0, 1, 0);
        house.open();
        Check.due("none", house.mean(0), -1000000);
        Check.due("one of 0", house.mean(1), 0);
        Check.due("in a test", house.claim(0), 1);
        Check.due("in a test", house.claim(1), 1);
        house.annul(1);
        Check.due("none that is so", house.mean(1), -1000000);
        house.as(0);
        Check.due("none yet", house.mean(1), -1000000);
    }

    private static int scoredBy(String scale) {
        TastingHouse house = planned("product a;" + scale);
        house.score(0, 0, 0, 30);
        house.score(0, 1, 0, 50);
        house.score(0, 2, 0, 40);
        house.open();
        return house.scored(0, 2, 0);
    }

    /** "scale own, scale raw (the last one counts; raw at first)" */
    private static void scaleAtFirstAndLast() {
        Check.due("at first", scoredBy(""), 400);
        Check.due("raw", scoredBy("scale raw;"), 400);
        Check.due("own", scoredBy("scale own;"), 500);
        Check.due("own, raw", scoredBy("scale own;scale raw;"), 400);
        Check.due("raw, own", scoredBy("scale raw;scale own;"), 500);
    }

    /** "by raw ten times it" */
    private static void rawLimits() {
        TastingHouse house = planned("product a;");
        int[] scores = {0, 1, 99, 100};
        for (int i = 0; i < scores.length; i++) {
            house.score(29, 6 + i, 0, scores[i]);
        }
        house.open();
        for (int i = 0; i < scores.length; i++) {
            Check.due("raw " + scores[i], house.scored(29, 6 + i, 0), 10 * scores[i]);
        }
    }

    /** "floor(1000 (it less their least) / (their greatest less their least)), 500 if these are alike" */
    private static void ownLimits() {
        TastingHouse house = planned("product a;product b;scale own;");
        int[][] scores = {{0, 0, 0}, {0, 1, 100}, {0, 2, 1}, {0, 3, 99}, {0, 4, 50}, {1, 0, 70}, {1, 1, 70}, {2, 0, 99},
            {2, 1, 100}, {3, 0, 10}, {3, 1, 13}, {3, 2, 11}, {3, 3, 12}, {4, 0, 0}, {5, 0, 100}};
        int[] want = {0, 1000, 10, 990, 500, 500, 500, 0, 1000, 0, 1000, 333, 666, 500, 500};
        for (int[] s : scores) {
            house.score(s[0], s[1], 0, s[2]);
        }
        house.open();
        for (int i = 0; i < scores.length; i++) {
            Check.due("own " + i, house.scored(scores[i][0], scores[i][1], 0), want[i]);
        }
    }

    /** "SCORES count as they are known": least and greatest too, over all products and sessions. */
    private static void ownOfWhatIsKnown() {
        TastingHouse house = planned("product a;product b;scale own;");
        house.score(0, 0, 0, 40);
        house.score(0, 9, 1, 60);
        house.score(0, 5, 1, 50);
        house.score(0, 0, 0, 100);
        house.score(1, 0, 0, 0);
        house.annul(2);
        house.annul(1);
        house.open();
        int[] at = {-1, -1, -1, 500, 500, 500, 1000, 0};
        for (int act = 0; act < at.length; act++) {
            house.as(act);
            Check.due("own at " + act, house.scored(0, 5, 1), at[act]);
        }
        Check.due("then the second of them", house.scored(0, 0, 0), 1000);
    }

    private static int driftBy(String reference) {
        TastingHouse house = planned("product a;product b;" + reference);
        house.score(0, 0, 0, 10);
        house.score(0, 1, 0, 13);
        house.score(0, 0, 1, 50);
        house.score(0, 1, 1, 45);
        house.open();
        return house.drift(1);
    }

    /** "reference NAME (a PRODUCT; the last one counts; none at first)" */
    private static void referenceAtFirstAndLast() {
        Check.due("none at first", driftBy(""), 0);
        Check.due("a", driftBy("reference a;"), 30);
        Check.due("b", driftBy("reference b;"), -50);
        Check.due("a, b", driftBy("reference a;reference b;"), -50);
        Check.due("b, a", driftBy("reference b;reference a;"), 30);
    }

    /** "(0 without a reference, or SCORES for it there)" */
    private static void driftWithoutScores() {
        TastingHouse house = planned("product a;product r;reference r;");
        house.score(0, 3, 0, 80);
        house.score(0, 5, 1, 10);
        house.score(0, 7, 1, 20);
        house.score(0, 8, 0, 20);
        house.open();
        int[] want = {0, 0, 0, 0, 0, 0, 0, 100, 0, 0};
        for (int session = 0; session < 10; session++) {
            Check.due("drift " + session, house.drift(session), want[session]);
        }
        house.as(2);
        Check.due("told before", house.drift(7), 0);
        house.as(0);
        Check.due("none at all", house.drift(5), 0);
    }

    /** "floor of the mean .. less that in the first SESSION": each mean is rounded by itself. */
    private static void driftRoundsEachMean() {
        TastingHouse house = planned("product r;reference r;");
        int[][] scores = {{0, 0, 10}, {1, 0, 10}, {2, 0, 11}, {0, 9, 11}, {1, 9, 11}, {2, 9, 11}, {0, 1, 10}, {1, 1, 11},
            {2, 1, 11}, {0, 2, 0}, {1, 2, 0}, {2, 2, 1}};
        for (int[] s : scores) {
            house.score(s[0], s[1], 0, s[2]);
        }
        house.open();
        Check.due("the first", house.drift(0), 0);
        Check.due("110 less 103.3", house.drift(9), 7);
        Check.due("106.7 less 103.3", house.drift(1), 3);
        Check.due("3.3 less 103.3", house.drift(2), -100);
    }

    private static void firstSessionThatHasSome() {
        TastingHouse house = planned("product r;reference r;");
        house.score(0, 9, 0, 90);
        house.score(0, 4, 0, 40);
        house.score(0, 0, 0, 0);
        house.annul(3);
        house.annul(2);
        house.open();
        int[][] want = {{0, 0, 0}, {0, 0, 0}, {0, 0, 500}, {0, 400, 900}, {0, 0, 500}, {0, 0, 0}};
        for (int act = 0; act <= 5; act++) {
            house.as(act);
            Check.due("session 0 at " + act, house.drift(0), want[act][0]);
            Check.due("session 4 at " + act, house.drift(4), want[act][1]);
            Check.due("session 9 at " + act, house.drift(9), want[act][2]);
        }
    }

    private static void driftByOwnScale() {
        TastingHouse house = planned("product a;product r;reference r;scale own;");
        house.score(0, 0, 1, 20);
        house.score(0, 1, 1, 60);
        house.score(0, 1, 0, 100);
        house.score(1, 1, 1, 3);
        house.open();
        // Taster 0: 0, 500, 1000; taster 1 has one score only.
        Check.due("drift", house.drift(1), 500);
        Check.due("mean", house.mean(0), 500);
        Check.due("mean of the reference", house.mean(1), 0);
        Check.due("drift not taken", house.scored(0, 1, 0), 1000);
    }

    /** "MEAN .. floor of the mean over all its SCORES, each less the DRIFT of its SESSION" */
    private static void meanRoundsDown() {
        TastingHouse house = planned("product a;product r;reference r;");
        house.score(0, 0, 1, 0);
        house.score(0, 1, 1, 50);
        house.score(0, 1, 0, 50);
        Check.due("just 0", meanAt(house, 3), 0);
        house = planned("product a;product r;reference r;");
        house.score(0, 0, 1, 0);
        house.score(0, 1, 1, 50);
        house.score(0, 1, 0, 49);
        house.score(1, 1, 0, 50);
        house.score(2, 1, 0, 50);
        Check.due("a third of 10 below 0", meanAt(house, 5), -4);
        Check.due("-10 alone", meanAt(house, 3), -10);
        Check.due("a half of 10 below 0", meanAt(house, 4), -5);
        house = planned("product a;");
        house.score(0, 0, 0, 1);
        house.score(1, 0, 0, 0);
        house.score(2, 0, 0, 0);
        Check.due("a third of 10", meanAt(house, 3), 3);
    }

    private static int meanAt(TastingHouse house, int act) {
        house.open();
        house.as(act);
        return house.mean(0);
    }

    private static void greatestMeans() {
        TastingHouse house = planned("product a;product r;reference r;");
        house.score(0, 0, 1, 100);
        house.score(0, 1, 1, 0);
        house.score(0, 2, 1, 100);
        house.score(0, 1, 0, 100);
        house.open();
        Check.due("the greatest", house.mean(0), 2000);
        Check.due("the least drift", house.drift(1), -1000);
        house = planned("product a;product r;reference r;");
        house.score(0, 0, 1, 0);
        house.score(0, 1, 1, 100);
        house.score(0, 1, 0, 0);
        house.open();
        Check.due("the least", house.mean(0), -1000);
        Check.due("the greatest drift", house.drift(1), 1000);
    }

    private static void holds(String test) {
        judge(test, 1);
    }

    private static void fails(String test) {
        judge(test, 0);
    }

    private static void judge(String test, int want) {
        TastingHouse house = planned("claim c when " + test + ";");
        house.open();
        Check.due(test, house.claim(0), want);
    }

    /** "each sum .. above 10 to the 9 is that, below -10 to the 9 likewise" */
    private static void boundsOfSums() {
        String most = "1000*1000*1000";
        fails(most + "-1=" + most);
        holds(most + "-1+1=" + most);
        holds(most + "+0=" + most);
        holds(most + "+1=" + most);
        holds(most + "+9999=" + most);
        holds(most + "+" + most + "=" + most);
        holds(most + "+1-1<" + most);
        holds(most + "+1-1=" + most + "-1");
        holds("0-" + most + "+(0-1)=0-" + most);
        holds("0-" + most + "+(0-" + most + ")=0-" + most);
        holds("0-" + most + "+(0-1)+1=1-" + most);
    }

    private static void boundsOfDifferences() {
        String most = "1000*1000*1000";
        fails("0-" + most + "+1=0-" + most);
        holds("0-" + most + "-0=0-" + most);
        holds("0-" + most + "-1=0-" + most);
        holds("0-" + most + "-" + most + "=0-" + most);
        holds("0-" + most + "-1+1>0-" + most);
        holds(most + "-(0-1)=" + most);
        holds(most + "-(0-" + most + ")=" + most);
        holds("0-" + most + "-9999+9999=9999-" + most);
    }

    private static void boundsOfProducts() {
        String most = "1000*1000*1000";
        holds("9999*9999<" + most);
        holds("9999*9999*10<" + most);
        holds("9999*9999*11=" + most);
        holds("9999*9999*9999=" + most);
        holds(most + "*1=" + most);
        holds(most + "*2=" + most);
        holds("(" + most + ")*(" + most + ")=" + most);
        holds("(0-1)*(" + most + ")=0-" + most);
        holds("(0-2)*(" + most + ")=0-" + most);
        holds("(0-" + most + ")*(0-" + most + ")=" + most);
        holds("(0-" + most + ")*9999=0-" + most);
        holds(most + "*9999/1000=1000*1000");
        holds(most + "*0=0");
    }

    /** "/ gives the greatest whole number not above, by 0 it gives 0" */
    private static void quotients() {
        holds("7/2=3");
        holds("8/2=4");
        holds("1/2=0");
        holds("0/5=0");
        holds("(0-1)/2=0-1");
        holds("(0-7)/2=0-4");
        holds("(0-8)/2=0-4");
        holds("7/(0-2)=0-4");
        holds("8/(0-2)=0-4");
        holds("(0-7)/(0-2)=3");
        holds("(0-8)/(0-2)=4");
        holds("1/(0-9999)=0-1");
        holds("5/0=0");
        holds("0/0=0");
        holds("(0-5)/0=0");
        holds("5/(3-3)=0");
        holds("5/0+1=1");
        holds("5/0*7=0");
        holds("1000*1000*1000/(0-1)=0-1000*1000*1000");
        holds("(0-1000*1000*1000)/(0-1)=1000*1000*1000");
        holds("(0-1000*1000*1000)/1000/1000/1000=0-1");
    }

    /** "All from the left on" */
    private static void fromTheLeftOn() {
        holds("10-4-3=3");
        holds("10-4+3=9");
        holds("100/7/2=7");
        holds("100/7*7=98");
        holds("7*100/7=100");
        holds("2+3*4=14");
        holds("(2+3)*4=20");
        holds("2*3+4=10");
        holds("1=1 or 1=2 and 1=2");
        fails("[1=1 or 1=2]and 1=2");
        holds("not 1=2 or 1=1");
        fails("not 1=1 and 1=2 or 1=2");
        fails("not[1=1 or 1=2]");
        fails("not 1=2 and 1=2");
    }

    private static void signs() {
        holds("1<2");
        fails("2<2");
        fails("3<2");
        holds("3>2");
        fails("2>2");
        fails("1>2");
        holds("2=2");
        fails("1=2");
        fails("3=2");
        holds("0-1<0");
        holds("min(1,2)=1");
        holds("min(2,1)=1");
        holds("max(1,2)=2");
        holds("max(2,1)=2");
        holds("min(0-1,0)=0-1");
        holds("max(0-1,0)=0");
        holds("min(3,3)=max(3,3)");
    }

    /** Eight tests of unlike lengths, each by itself. */
    private static void claimsInOrder() {
        TastingHouse house = planned("claim s when 1=1;claim t when 1=2 or 1+1=2;claim u when not 1=1;claim v when 2>1 and 1>2;"
            + "claim w when (1)=1;claim x when 1<1;claim y when [1=1];claim z when min(1,2)=2;");
        house.open();
        int[] want = {1, 1, 0, 0, 1, 0, 1, 0};
        for (int k = 7; k >= 0; k--) {
            Check.due("claim " + k, house.claim(k), want[k]);
        }
    }

    private static void claimsOfNothingKnown() {
        TastingHouse house = planned(Edge.PAIR + "look 1 below 1 in 1;claim p when stopped 0;claim q when chance 0=1000*1000;"
            + "claim r when least 0=0 and most 0=1000;claim s when right 0+wrong 0+tied 0=0;claim t when drift 9=0;");
        house.open();
        int[] want = {0, 1, 1, 1, 1};
        for (int k = 0; k < want.length; k++) {
            Check.due("claim " + k, house.claim(k), want[k]);
        }
    }

    /** Six open at once, with as much waiting at each as can wait. */
    private static void deepestClaims() {
        holds("1+1*(1+1*(1+1*(1+1*(1+1*(1+1*(1+1*1))))))=8");
        holds("1=1+1*min(9,1+1*min(9,1+1*min(9,1+1*min(9,1+1*min(9,1+1*min(9,1+1*1))))))-7");
        holds("1=2 or 1=1 and[1=2 or 1=1 and[1=2 or 1=1 and[1=2 or 1=1 and[1=2 or 1=1 and[1=2 or 1=1 and 8=1+7*1]]]]]");
        holds("not not not not not not 1=1");
        fails("not not not not not 1=1");
    }
}
