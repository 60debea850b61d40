/** Promises 20 to 23: means, drift, scales, and claims with all their parts. */
public final class ScoreTest {
    public static void main(String[] args) {
        raw();
        own();
        drift();
        reference();
        wrongInputs();
        claims();
        claimsOfTrials();
        claimsOfScores();
        Check.end();
    }

    private static void raw() {
        TastingHouse house = Check.planned(0, "product a;product b;scale own;scale raw;", 4);
        house.score(0, 0, 0, 10);
        house.score(0, 0, 0, 90);
        house.score(1, 0, 0, 11);
        house.score(1, 3, 0, 13);
        house.open();
        Check.due("the first counts", house.scored(0, 0, 0), 100);
        Check.due("mean, floor", house.mean(0), 113);
        Check.due("no scores", house.mean(1), -1000000);
        house.annul(1);
        Check.due("then the second", house.scored(0, 0, 0), 900);
        Check.due("mean", house.mean(0), 380);
        house.as(1);
        Check.due("as known at 1", house.mean(0), 100);
        house.as(0);
        Check.due("as known at 0", house.mean(0), -1000000);
        Check.due("none at 0", house.scored(0, 0, 0), -1);
    }

    private static void own() {
        TastingHouse house = Check.planned(0, "scale own;product a;product b;", 3);
        house.score(4, 0, 0, 20);
        house.score(4, 9, 1, 50);
        house.score(4, 5, 1, 27);
        house.score(5, 0, 0, 77);
        house.score(5, 0, 0, 100);
        house.open();
        Check.due("least", house.scored(4, 0, 0), 0);
        Check.due("greatest", house.scored(4, 9, 1), 1000);
        Check.due("between, floor", house.scored(4, 5, 1), 233);
        Check.due("alike, the one that doesn't count left out", house.scored(5, 0, 0), 500);
        house.annul(2);
        Check.due("the scale follows what is known", house.scored(4, 5, 1), 1000);
        house.as(5);
        Check.due("and what is told", house.scored(4, 5, 1), 233);
    }

    private static void drift() {
        TastingHouse house = Check.planned(0, "product a;product r;reference a;reference r;", 4);
        house.score(0, 2, 1, 50);
        house.score(1, 2, 1, 51);
        house.score(2, 2, 1, 51);
        house.score(0, 4, 1, 48);
        house.score(1, 4, 1, 48);
        house.score(2, 4, 1, 49);
        house.score(0, 7, 1, 90);
        house.score(0, 2, 0, 30);
        house.score(0, 4, 0, 30);
        house.score(0, 7, 0, 30);
        house.score(0, 0, 0, 30);
        house.open();
        int[] want = {0, 0, 0, 0, 483 - 506, 0, 0, 900 - 506, 0, 0};
        for (int session = 0; session < 10; session++) {
            Check.due("drift " + session, house.drift(session), want[session]);
        }
        Check.due("mean less drift", house.mean(0), Math.floorDiv(300 + 323 + (300 - 394) + 300, 4));
        Check.due("the score itself has its drift", house.scored(0, 7, 0), 300);
        house.annul(1);
        house.annul(2);
        house.annul(3);
        Check.due("the first that has some", house.drift(4), 0);
        Check.due("and from there", house.drift(7), 900 - 483);
        Check.due("a mean below 0", house.mean(0), Math.floorDiv(300 + 300 + (300 - 417) + 300, 4));
    }

    private static void reference() {
        TastingHouse house = Check.planned(0, "product a;product r;", 2);
        house.score(0, 0, 1, 50);
        house.score(0, 1, 1, 70);
        house.open();
        Check.due("without a reference", house.drift(1), 0);
        TastingHouse low = Check.planned(0, "product a;product r;reference r;", 3);
        low.score(0, 0, 1, 0);
        low.score(0, 1, 1, 100);
        low.score(0, 1, 0, 0);
        low.score(1, 1, 0, 1);
        low.score(2, 1, 0, 0);
        low.open();
        Check.due("floor below 0", low.mean(0), -997);
    }

    private static void wrongInputs() {
        TastingHouse house = Check.planned(0, "product a;", 1);
        house.score(0, 0, 0, 0);
        house.open();
        Check.due("mean 1", house.mean(1), -1);
        Check.due("mean -1", house.mean(-1), -1);
        Check.due("drift 10", house.drift(10), -1000000000);
        Check.due("drift -1", house.drift(-1), -1000000000);
        Check.due("scored", house.scored(0, 0, 0), 0);
        int[][] wrong = {{30, 0, 0}, {-1, 0, 0}, {0, 10, 0}, {0, -1, 0}, {0, 0, 1}, {0, 0, -1}, {1, 0, 0}};
        for (int[] w : wrong) {
            Check.due("no score", house.scored(w[0], w[1], w[2]), -1);
        }
        Check.due("claim 0", house.claim(0), -1);
        Check.due("claim -1", house.claim(-1), -1);
    }

    private static void claims() {
        holds("1=1", 1);
        holds("1=2", 0);
        holds("1<2", 1);
        holds("2<2", 0);
        holds("3>2", 1);
        holds("2>2", 0);
        holds("1+2*3=7", 1);
        holds("(1+2)*3=9", 1);
        holds("9-3-2=4", 1);
        holds("9/2/2=2", 1);
        holds("9/2*2=8", 1);
        holds("7-8<0", 1);
        holds("(0-7)/2=0-4", 1);
        holds("7/(0-2)=0-4", 1);
        holds("5/0=0", 1);
        holds("(0-5)/0=0", 1);
        holds("9999*9999*9999=9999*9999*9998", 1);
        holds("9999*9999*9999/1000=1000*1000", 1);
        holds("9999*9999*9999-1=9999*9999*9999", 0);
        holds("0-9999*9999*9999=0-9999*9999*9998", 1);
        holds("0-9999*9999*9999-9999+1=1-9999*9999*9998", 1);
        holds("min(3,2)=2", 1);
        holds("max(3,2)=3", 1);
        holds("min(max(1,5),4)+1=5", 1);
        holds("1=1 or 1=1 and 1=2", 1);
        holds("[1=1 or 1=1]and 1=2", 0);
        holds("1=2 and 1=1 or 1=1", 1);
        holds("not 1=2 and 1=2", 0);
        holds("not[1=2 and 1=2]", 1);
        holds("not not 1=1", 1);
        holds("not 1=1 or 1=1", 1);
        holds("0001=1", 1);
    }

    private static void holds(String test, int want) {
        TastingHouse house = Check.planned(0, "claim z when 1=2;claim c when " + test + ";claim d when 3=3;", 3);
        Check.due("while shut", house.claim(1), -1);
        house.open();
        Check.due(test, house.claim(1), want);
        Check.due("the one ahead", house.claim(0), 0);
        Check.due("the one behind", house.claim(2), 1);
    }

    private static void claimsOfTrials() {
        TastingHouse house = Check.planned(7, "product a;product b;ties half;triangle a against b;look 1 below 1 in 2;"
            + "pair a against b;claim p when stopped 0;claim q when stopped 1;"
            + "claim r when right 1=1 and wrong 1=2 and tied 1=3;claim s when chance 1=890*1000+625;"
            + "claim t when least 1=0;claim u when most 1>400;claim v when right 0=1 and chance 0=333*1000+334;", 13);
        house.answer(0, 0, 488);
        house.answer(1, 0, house.code(1, 0, 0));
        house.answer(1, 1, house.code(1, 1, 0));
        house.answer(1, 2, house.code(1, 2, 1));
        house.answer(1, 3, 0);
        house.answer(1, 4, 0);
        house.answer(1, 5, 0);
        house.open();
        int[] want = {1, 0, 1, 1, 1, 1, 1};
        for (int claim = 0; claim < want.length; claim++) {
            Check.due("claim " + claim, house.claim(claim), want[claim]);
        }
        house.as(0);
        Check.due("nothing is known", house.claim(0), 0);
        Check.due("nothing is known", house.claim(2), 0);
        Check.due("none such", house.claim(7), -1);
    }

    private static void claimsOfScores() {
        TastingHouse house = Check.planned(7, "product a;product r;product n;reference r;"
            + "claim p when mean a=310;claim q when drift 1=0-20 and drift 9=0;claim s when mean n=0-1000*1000;", 7);
        house.score(0, 0, 1, 50);
        house.score(0, 1, 1, 48);
        house.score(0, 0, 0, 30);
        house.score(0, 1, 0, 30);
        house.open();
        for (int claim = 0; claim < 3; claim++) {
            Check.due("claim " + claim, house.claim(claim), 1);
        }
    }
}
