/** Promise 13, and what promise 5 keeps for it: claims are heard by what was known. */
public final class ClaimTest {
    public static void main(String[] args) {
        notSlippery();
        slipperyOnlyThen();
        treatedWithinTwelve();
        treatedThoughNotSlippery();
        toldEarlyEnough();
        aheadOfTheClaimedQuarter();
        forecastsOfTheFourAhead();
        twoMembersOfThree();
        noSaltAsTheLastWasTold();
        saltAnywhere();
        saltAsItWasThen();
        lateForecastsDoNotCount();
        theLastToldOfSeveral();
        foretoldForARoadToldLater();
        theLastQuarter();
        refusals();
        Check.finish();
    }

    private static void pass(GritWatch county, int quarters) {
        for (int i = 0; i < quarters; i++) {
            county.pass(1);
        }
    }

    /** Road 0 of that class between the nodes 2 and 3, slippery in each quarter from the fourth. */
    private static GritWatch frozen(int rank) {
        GritWatch county = new GritWatch();
        county.road(2, 3, 1, rank, 0, 0, false);
        county.air(-20, false);
        county.fall(3, 0, 0);
        return county;
    }

    /** As frozen(0), with the road 1 at the barn, along which two lorries have spread all salt by quarter 12. */
    private static GritWatch withoutSalt() {
        GritWatch county = frozen(0);
        county.road(0, 1, 6, 2, 0, 0, false);
        for (int i = 0; i < 2; i++) {
            county.lorry(false);
            county.load(i);
            county.rate(i, 9);
            county.order(i, 1);
        }
        county.order(0, 1);
        pass(county, 12);
        Check.same("hoppers", county.many(4), 0);
        Check.same("barn", county.many(3), 0);
        return county;
    }

    private static void notSlippery() {
        GritWatch county = frozen(0);
        pass(county, 5);
        Check.same("quarter 1", county.claim(0, 1), 0);
        Check.same("quarter 3", county.claim(0, 3), 0);
        Check.same("quarter 4", county.claim(0, 4), 2);
        county.road(0, 1, 1, 0, 0, 0, false);
        Check.same("a road told later", county.claim(1, 5), 0);
    }

    private static void slipperyOnlyThen() {
        GritWatch county = frozen(0);
        pass(county, 4);
        county.air(20, false);
        county.fall(0, 0, 0);
        pass(county, 10);
        Check.same("it was", county.claim(0, 4), 2);
        Check.same("it is no more", county.claim(0, 14), 0);
    }

    private static void treatedWithinTwelve() {
        GritWatch county = new GritWatch();
        county.road(0, 1, 1, 0, 0, 0, false);
        county.air(-20, false);
        county.fall(3, 0, 0);
        county.lorry(true);
        pass(county, 9);
        county.order(0, 0);
        pass(county, 14);
        Check.same("treated", county.ofRoad(0, 14), 10);
        Check.same("the quarter ahead", county.claim(0, 9), 2);
        for (int quarter = 10; quarter <= 22; quarter++) {
            Check.same("quarter " + quarter, county.claim(0, quarter), 1);
        }
        Check.same("13 behind", county.claim(0, 23), 2);
        county.order(0, 0);
        pass(county, 1);
        Check.same("treated again", county.ofRoad(0, 14), 24);
        Check.same("13 behind, as ever", county.claim(0, 23), 2);
        Check.same("the first time still counts", county.claim(0, 15), 1);
        Check.same("and so does the second", county.claim(0, 24), 1);
    }

    private static void treatedThoughNotSlippery() {
        GritWatch county = new GritWatch();
        county.road(0, 1, 1, 0, 0, 0, false);
        county.air(-20, false);
        county.fall(3, 0, 0);
        county.lorry(true);
        county.order(0, 0);
        pass(county, 14);
        Check.same("treated in 1", county.ofRoad(0, 14), 1);
        Check.same("not slippery comes first", county.claim(0, 2), 0);
        Check.same("treated comes next", county.claim(0, 4), 1);
        Check.same("12 behind", county.claim(0, 13), 1);
        Check.same("13 behind", county.claim(0, 14), 2);
    }

    private static void toldEarlyEnough() {
        int[] notices = {4, 8, 16};
        for (int rank = 0; rank <= 2; rank++) {
            GritWatch county = frozen(rank);
            pass(county, 5);
            county.forecast(notices[rank], -5, -5, -5, false);
            pass(county, notices[rank]);
            Check.same("just early enough, class " + rank, county.claim(0, 5 + notices[rank]), 4);
            GritWatch late = frozen(rank);
            pass(late, 6);
            late.forecast(notices[rank] - 1, -5, -5, -5, false);
            pass(late, notices[rank] - 1);
            Check.same("a quarter late, class " + rank, late.claim(0, 5 + notices[rank]), 2);
        }
    }

    // 'so long ahead of that QUARTER': that of the claim, also where the forecast is for one ahead of it
    private static void aheadOfTheClaimedQuarter() {
        GritWatch county = frozen(0);
        pass(county, 7);
        county.forecast(3, -5, -5, -5, false);
        pass(county, 5);
        Check.same("3 ahead of the quarter 10", county.claim(0, 10), 2);
        Check.same("4 ahead of the quarter 11", county.claim(0, 11), 4);
    }

    private static void forecastsOfTheFourAhead() {
        GritWatch county = frozen(0);
        pass(county, 5);
        county.forecast(8, -5, -5, -5, false);
        pass(county, 15);
        Check.same("quarter 12", county.claim(0, 12), 2);
        for (int quarter = 13; quarter <= 17; quarter++) {
            Check.same("quarter " + quarter, county.claim(0, quarter), 4);
        }
        Check.same("quarter 18", county.claim(0, 18), 2);
    }

    private static void twoMembersOfThree() {
        GritWatch county = frozen(0);
        county.forecast(20, 9, -1, 9, false);
        county.forecast(25, 0, 0, 0, false);
        county.forecast(30, 9, -1, -1, false);
        county.forecast(35, 1, 1, 9, true);
        county.forecast(40, 2, 2, 2, true);
        pass(county, 40);
        Check.same("one member", county.claim(0, 20), 2);
        Check.same("goal 0", county.claim(0, 25), 2);
        Check.same("two members", county.claim(0, 30), 4);
        Check.same("two members, clear", county.claim(0, 35), 4);
        Check.same("goal 0, clear", county.claim(0, 40), 2);
    }

    private static void noSaltAsTheLastWasTold() {
        GritWatch county = withoutSalt();
        county.forecast(6, -5, -5, -5, false);
        pass(county, 6);
        Check.same("no salt", county.claim(0, 18), 3);
        county.forecast(5, -5, -5, -5, false);
        county.deliver(1, 1);
        pass(county, 5);
        Check.same("no salt yet", county.claim(0, 23), 3);
        county.forecast(5, -5, -5, -5, false);
        pass(county, 5);
        Check.same("salt 1 in the barn", county.claim(0, 28), 4);
    }

    private static void saltAnywhere() {
        GritWatch county = frozen(0);
        county.lorry(false);
        county.load(0);
        county.lorry(false);
        county.load(1);
        county.forecast(10, -5, -5, -5, false);
        pass(county, 10);
        Check.same("barn", county.many(3), 0);
        Check.same("salt in hoppers alone", county.claim(0, 10), 4);
        GritWatch second = frozen(0);
        second.forecast(10, -5, -5, -5, false);
        pass(second, 10);
        Check.same("salt in the barn alone", second.claim(0, 10), 4);
        GritWatch third = frozen(0);
        third.deliver(80, 1);
        pass(third, 1);
        third.lorry(false);
        third.load(0);
        third.forecast(10, -5, -5, -5, false);
        pass(third, 10);
        Check.same("90 in each", third.claim(0, 11), 4);
    }

    private static void saltAsItWasThen() {
        GritWatch county = frozen(0);
        county.road(0, 1, 6, 2, 0, 0, false);
        county.lorry(false);
        county.lorry(false);
        county.load(0);
        county.load(1);
        county.rate(0, 9);
        county.rate(1, 9);
        county.order(0, 1);
        county.order(0, 1);
        county.order(1, 1);
        county.forecast(20, -5, -5, -5, false);
        pass(county, 20);
        Check.same("none is left", county.many(3) + county.many(4), 0);
        Check.same("there was some as it was told", county.claim(0, 20), 4);
    }

    private static void lateForecastsDoNotCount() {
        GritWatch county = withoutSalt();
        county.forecast(8, -5, -5, -5, false);
        county.deliver(10, 1);
        pass(county, 5);
        Check.same("salt has come", county.many(3), 10);
        county.forecast(3, -5, -5, -5, false);
        pass(county, 3);
        Check.same("told too late", county.claim(0, 20), 3);
        pass(county, 4);
        Check.same("but not too late for the quarter 24", county.claim(0, 24), 4);
        GritWatch second = withoutSalt();
        second.forecast(8, -5, -5, -5, false);
        second.deliver(10, 1);
        pass(second, 4);
        second.forecast(3, 5, -5, 5, false);
        second.forecast(5, -5, -5, -5, false);
        pass(second, 5);
        Check.same("of a later quarter, or not foretelling", second.claim(0, 20), 3);
        Check.same("of this quarter", second.claim(0, 21), 4);
    }

    private static void theLastToldOfSeveral() {
        GritWatch county = withoutSalt();
        county.deliver(10, 1);
        county.forecast(10, -5, -5, -5, false);
        pass(county, 1);
        county.forecast(8, -5, -5, -5, false);
        pass(county, 9);
        Check.same("for the earlier quarter, told later", county.claim(0, 21), 4);
        Check.same("for both quarters", county.claim(0, 22), 4);
        GritWatch second = frozen(0);
        second.road(0, 1, 6, 2, 0, 0, false);
        second.lorry(false);
        second.lorry(false);
        second.load(0);
        second.load(1);
        second.rate(0, 9);
        second.rate(1, 9);
        second.order(0, 1);
        second.order(0, 1);
        second.order(1, 1);
        second.forecast(20, -5, -5, -5, false);
        pass(second, 12);
        second.forecast(8, -5, -5, -5, false);
        pass(second, 8);
        Check.same("the later one had none", second.claim(0, 20), 3);
    }

    private static void foretoldForARoadToldLater() {
        GritWatch county = new GritWatch();
        Check.same("foretold for none", county.forecast(20, -5, -5, -5, false), 0);
        county.road(2, 3, 1, 0, 0, 0, false);
        county.air(-20, false);
        county.fall(3, 0, 0);
        pass(county, 20);
        Check.same("told before the road was", county.claim(0, 20), 4);
    }

    private static void theLastQuarter() {
        GritWatch county = frozen(0);
        county.road(0, 1, 1, 0, 0, 0, false);
        county.lorry(true);
        pass(county, 198);
        county.order(0, 1);
        pass(county, 1);
        Check.same("treated in it", county.ofRoad(1, 14), 199);
        Check.same("claimed of it", county.claim(1, 199), 1);
        Check.same("not of that ahead of it", county.claim(1, 198), 2);
        Check.same("the other road was slippery in it", county.claim(0, 199), 2);
        Check.same("times", county.ofRoad(0, 13), 196);
    }

    private static void refusals() {
        GritWatch county = frozen(0);
        Check.badArgument("quarter 1 at 0", county, () -> county.claim(0, 1));
        Check.badArgument("quarter 0 at 0", county, () -> county.claim(0, 0));
        pass(county, 6);
        Check.badArgument("quarter 0", county, () -> county.claim(0, 0));
        Check.badArgument("quarter -1", county, () -> county.claim(0, -1));
        Check.badArgument("quarter 7 at 6", county, () -> county.claim(0, 7));
        Check.noPlace("road 1", county, () -> county.claim(1, 6));
        Check.noPlace("road -1", county, () -> county.claim(-1, 6));
        Check.noPlace("road 8", county, () -> county.claim(8, 6));
        Check.noPlace("road 1 and quarter 0", county, () -> county.claim(1, 0));
        Check.same("quarter 6 at 6", county.claim(0, 6), 2);
    }
}
