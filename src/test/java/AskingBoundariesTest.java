/**
 * Promises 13 to 22, where a sentence names a boundary: just inside and just outside, none and all. ArgumentsTest holds
 * the bounds of the numbers that are told and what is thrown beyond them.
 */
public final class AskingBoundariesTest {
    private static final int WARMTH = 7;
    private static final int SALT = 11;
    private static final int NOW = 1;
    private static final int BARN = 3;
    private static final int IN_HOPPERS = 4;

    public static void main(String[] args) {
        claimOfTheFirstQuarters();
        claimWhileNowIsNought();
        claimOfThisQuarterAndTheNext();
        claimTwelveBehindATreatment();
        claimOfEachClassInTime();
        claimFourAndFiveBehindAForecast();
        claimByTheLastSalt();
        latestTreatmentOrNone();
        timesSlippery();
        whereALorryIs();
        manyOfNoneAndOfAll();
        noWayAndTheLongestWay();
        wayWithinARing();
        meanWarmthNotRounded();
        slipperyInTheLastOfTheQuarters();
        slipperyInTheNextQuarter();
        slipperyBeyondTheLastQuarter();
        saltForNothing();
        saltForTheLastOfTheQuarters();
        saltOfSixtyAndOfSixtyOne();
        saltOfWhichMoreWouldNotDo();
        saltForBeyondTheLastQuarter();
        rowOfNoRoads();
        rowOfSixRoadsAndOfSeven();
        sixAndSevenOfTheClassNought();
        rowOfWhateverLorry();
        digestWithAndWithoutClaims();
        digestWithAndWithoutALorry();
        theLastPromisedCall();
        Check.finish();
    }

    // ---- promise 13

    /** Slippery from the second QUARTER on: 3 flakes fall in each, and 1 thaws. */
    private static GritWatch snowed(int rank) {
        GritWatch county = Counties.oneRoad(rank);
        county.fall(0, 3, 0);
        return county;
    }

    private static void claimOfTheFirstQuarters() {
        GritWatch county = snowed(0);
        county.forecast(4, -1, -1, -1, false);
        county.forecast(3, -1, -1, -1, false);
        county.pass(5);
        Check.same("quarter 1 was not slippery", county.claim(0, 1), 0);
        Check.same("quarter 2", county.claim(0, 2), 2);
        Check.same("quarter 3, told 3 ahead", county.claim(0, 3), 2);
        Check.same("quarter 4, told 4 ahead", county.claim(0, 4), 4);
    }

    private static void claimWhileNowIsNought() {
        Refusal.badArgument("quarter 0", () -> snowed(0), county -> county.claim(0, 0));
        Refusal.badArgument("quarter 1", () -> snowed(0), county -> county.claim(0, 1));
        Refusal.noPlace("quarter 1 of no road", () -> snowed(0), county -> county.claim(1, 1));
    }

    private static void claimOfThisQuarterAndTheNext() {
        for (int now : new int[] {1, 2, 198, 199}) {
            Refusal.Scene at = () -> {
                GritWatch county = snowed(0);
                Counties.pass(county, now);
                return county;
            };
            Check.same("of this quarter", at.make().claim(0, now), now == 1 ? 0 : 2);
            Refusal.badArgument("of the next behind " + now, at, county -> county.claim(0, now + 1));
            Refusal.badArgument("of the quarter 0 at " + now, at, county -> county.claim(0, 0));
        }
    }

    private static void claimTwelveBehindATreatment() {
        GritWatch county = snowed(0);
        county.lorry(true);
        county.rate(0, 0);
        Counties.pass(county, 4);
        county.order(0, 0);
        Counties.pass(county, 14);
        Check.same("treated", county.ofRoad(0, 14), 5);
        Check.same("the quarter ahead of it", county.claim(0, 4), 2);
        Check.same("that quarter", county.claim(0, 5), 1);
        Check.same("12 behind it", county.claim(0, 17), 1);
        Check.same("13 behind it", county.claim(0, 18), 2);
    }

    private static void claimOfEachClassInTime() {
        int[] ahead = {4, 8, 16};
        for (int rank = 0; rank <= 2; rank++) {
            for (int late = 0; late <= 1; late++) {
                GritWatch county = snowed(rank);
                county.pass(2 + late);
                county.forecast(ahead[rank] - late, 9, -1, -1, false);
                Counties.pass(county, ahead[rank] - late);
                Check.same("class " + rank + ", late by " + late, county.claim(0, 2 + ahead[rank]), late == 0 ? 4 : 2);
            }
        }
    }

    private static void claimFourAndFiveBehindAForecast() {
        GritWatch county = snowed(0);
        county.forecast(20, -1, 9, -1, false);
        Counties.pass(county, 26);
        Check.same("the quarter ahead of it", county.claim(0, 19), 2);
        Check.same("that quarter", county.claim(0, 20), 4);
        Check.same("4 behind it", county.claim(0, 24), 4);
        Check.same("5 behind it", county.claim(0, 25), 2);
    }

    /** All salt but that many is on roads: a forecast is told then, for 6 quarters later, and a claim heard of that. */
    private static int answerWithSaltLeft(int left) {
        GritWatch county = new GritWatch();
        county.road(2, 3, 1, 0, 0, 0, false);
        county.road(0, 1, 6, 2, 0, 0, false);
        county.road(0, 1, 1, 2, 0, 0, false);
        county.fall(0, 3, 0);
        for (int i = 0; i < 3; i++) {
            county.lorry(false);
            county.load(i);
        }
        county.rate(0, 9);
        county.order(0, 1);
        county.order(1, 1);
        county.rate(1, 0);
        Counties.pass(county, 6);
        county.rate(0, 6);
        county.rate(1, 9);
        county.order(0, 1);
        county.order(1, 2);
        Counties.pass(county, 6);
        // 10 were in the second one's hopper, 9 of them are on the road
        Check.same("barn", county.many(BARN), 0);
        Check.same("hoppers", county.many(IN_HOPPERS), 1);
        county.rate(1, 1 - left);
        county.order(1, 2);
        county.pass(1);
        Check.same("hoppers as it is told", county.many(IN_HOPPERS), left);
        county.forecast(6, -1, -1, -1, false);
        county.deliver(50, 1);
        Counties.pass(county, 6);
        return county.claim(0, county.many(NOW));
    }

    private static void claimByTheLastSalt() {
        Check.same("none at all", answerWithSaltLeft(0), 3);
        Check.same("1 in a hopper", answerWithSaltLeft(1), 4);
    }

    // ---- promises 14 to 16

    private static void latestTreatmentOrNone() {
        GritWatch county = Counties.oneRoad(0);
        county.lorry(true);
        Check.same("never", county.ofRoad(0, 14), -1);
        county.order(0, 0);
        county.order(0, 0);
        county.pass(1);
        Check.same("in the first quarter", county.ofRoad(0, 14), 1);
        county.pass(1);
        Check.same("the latest", county.ofRoad(0, 14), 2);
        county.pass(1);
        Check.same("as before", county.ofRoad(0, 14), 2);
        Counties.pass(county, 195);
        county.order(0, 0);
        county.pass(1);
        Check.same("in the last quarter", county.ofRoad(0, 14), 199);
    }

    private static void timesSlippery() {
        GritWatch county = snowed(2);
        county.pass(1);
        Check.same("not yet", county.ofRoad(0, 13), 0);
        county.pass(1);
        Check.same("once", county.ofRoad(0, 13), 1);
        Counties.pass(county, 197);
        Check.same("in each but the first", county.ofRoad(0, 13), 198);
    }

    private static void whereALorryIs() {
        GritWatch county = new GritWatch();
        county.road(6, 0, 2, 1, 0, 0, false);
        county.lorry(false);
        county.order(0, 0);
        Check.same("node", county.ofLorry(0, 0), 0);
        Check.same("no road", county.ofLorry(0, 1), -1);
        county.pass(1);
        Check.same("no node", county.ofLorry(0, 0), -1);
        Check.same("road", county.ofLorry(0, 1), 0);
        Check.same("done", county.ofLorry(0, 2), 1);
        county.pass(1);
        Check.same("the last node", county.ofLorry(0, 0), 6);
        Check.same("no road again", county.ofLorry(0, 1), -1);
        Check.same("none is done", county.ofLorry(0, 2), 0);
    }

    private static void manyOfNoneAndOfAll() {
        GritWatch empty = new GritWatch();
        for (int what = 0; what <= 14; what++) {
            Check.same("none of " + what, empty.many(what), what == BARN ? 100 : 0);
        }
        GritWatch crowd = Counties.crowd();
        int[] due = {8, 0, 3, 0, 100, 0, 0, 0, 0, 0, 0, 20, 5, 0, 0};
        for (int what = 0; what <= 14; what++) {
            Check.same("all of " + what, crowd.many(what), due[what]);
        }
    }

    // ---- promises 17 and 18

    private static void noWayAndTheLongestWay() {
        GritWatch county = new GritWatch();
        for (int node = 0; node <= 6; node++) {
            Check.same("to itself", county.way(node, node), 0);
            Check.same("without roads", county.way(node, (node + 1) % 7), -1);
        }
        for (int node = 0; node < 6; node++) {
            county.road(node + 1, node, 6, 0, 0, 0, false);
            Check.same("as far as the roads go", county.way(0, node + 1), 6 * (node + 1));
            Check.same("and back", county.way(node + 1, 0), 6 * (node + 1));
            Check.same("no farther", county.way(0, node + 2 > 6 ? 0 : node + 2), node + 2 > 6 ? 0 : -1);
        }
    }

    private static void wayWithinARing() {
        GritWatch county = new GritWatch();
        for (int node = 0; node <= 6; node++) {
            county.road(node, (node + 1) % 7, 2, 0, 0, 0, false);
        }
        Check.same("three ahead", county.way(0, 3), 6);
        Check.same("three back", county.way(0, 4), 6);
        county.road(0, 3, 5, 0, 0, 0, false);
        Check.same("shorter by 1", county.way(3, 0), 5);
        Check.same("as long by it or round", county.way(0, 4), 6);
    }

    private static void meanWarmthNotRounded() {
        GritWatch county = new GritWatch();
        Check.isTrue("of none", county.meanWarmth() == 0.0);
        for (int i = 0; i < 8; i++) {
            county.road(0, 1, 1, 0, 0, 0, i == 0);
        }
        Check.isTrue("of eight new ones", county.meanWarmth() == 3.0);
        county.air(0, false);
        county.pass(1);
        // a bridge of 1 and seven roads of 2
        Check.isTrue("not rounded down", county.meanWarmth() == 1.875);
        county.pass(2);
        Check.isTrue("eight of 0", county.meanWarmth() == 0.0);
        county.air(-2, false);
        county.pass(1);
        // a bridge of -2 and seven roads of -1
        Check.isTrue("nor towards 0", county.meanWarmth() == -1.125);
    }

    // ---- promise 19

    /** 8 water with that salt on a road of a warmth of 20, from where it is going to be 1 colder in each quarter. */
    private static GritWatch coolingBrine(int salt) {
        GritWatch county = Counties.oneRoad(1);
        county.lorry(false);
        county.load(0);
        county.rate(0, salt);
        county.order(0, 0);
        county.pass(1);
        county.air(20, false);
        county.fall(1, 0, 0);
        county.pass(8);
        county.fall(0, 0, 0);
        county.pass(8);
        county.air(-20, false);
        return county;
    }

    private static void slipperyInTheLastOfTheQuarters() {
        // a point of -3 is passed in the 24th quarter, one of -4 in the 25th
        GritWatch county = coolingBrine(5);
        Check.same("warmth", county.ofRoad(0, WARMTH), 20);
        Check.same("point", county.ofRoad(0, 12), -3);
        Check.same("in the 24th of 24", county.slipperyIn(0, 24), 24);
        Check.same("not in 23", county.slipperyIn(0, 23), -1);
        GritWatch later = coolingBrine(6);
        Check.same("point", later.ofRoad(0, 12), -4);
        Check.same("in the 25th", later.slipperyIn(0, 24), -1);
        later.pass(1);
        Check.same("a quarter on", later.slipperyIn(0, 24), 24);
        Refusal.badArgument("of 25", () -> coolingBrine(6), more -> more.slipperyIn(0, 25));
    }

    private static void slipperyInTheNextQuarter() {
        GritWatch county = snowed(1);
        Check.same("in the second", county.slipperyIn(0, 24), 2);
        Check.same("not in the next", county.slipperyIn(0, 1), -1);
        county.pass(1);
        Check.same("in the next", county.slipperyIn(0, 1), 1);
        county.pass(1);
        Check.same("is slippery, and would be in the next", county.slipperyIn(0, 1), 1);
        county.fall(0, 0, 0);
        // of 4 snow 1 thaws in each quarter
        Check.same("is slippery, and once more", county.slipperyIn(0, 24), 1);
        county.pass(1);
        Check.same("is slippery, and no more", county.many(14), 1);
        Check.same("never again", county.slipperyIn(0, 24), -1);
    }

    private static void slipperyBeyondTheLastQuarter() {
        GritWatch county = Counties.oneRoad(1);
        Counties.pass(county, 199);
        county.air(-20, false);
        county.fall(2, 0, 0);
        // from 5: below 0 in the sixth
        Check.same("in what would be 205", county.slipperyIn(0, 24), 6);
        Check.same("not ahead of that", county.slipperyIn(0, 5), -1);
        Check.same("now", county.many(NOW), 199);
        Check.same("not slippery", county.many(14), 0);
        Refusal.badState("but it does not come", () -> {
            GritWatch last = Counties.oneRoad(1);
            Counties.pass(last, 199);
            return last;
        }, more -> more.pass(1));
    }

    // ---- promise 20

    private static void saltForNothing() {
        GritWatch county = Counties.oneRoad(1);
        Check.same("dry and warm, of 1", county.saltFor(0, 1), 0);
        Check.same("dry and warm, of 24", county.saltFor(0, 24), 0);
        county.fall(3, 0, 3);
        Check.same("wet and warm", county.saltFor(0, 24), 0);
        county.fall(0, 0, 0);
        county.air(-20, true);
        Check.same("dry and cold", county.saltFor(0, 24), 0);
    }

    private static void saltForTheLastOfTheQuarters() {
        // 5 salt by 8 water freeze in the 24th quarter, 6 in the 25th
        GritWatch county = coolingBrine(5);
        Check.same("of 23", county.saltFor(0, 23), 0);
        Check.same("of 24", county.saltFor(0, 24), 1);
        Check.same("of 24, with 4 there", coolingBrine(4).saltFor(0, 24), 2);
        Check.same("of 24, with 6 there", coolingBrine(6).saltFor(0, 24), 0);
        Check.same("it is not there by that", county.ofRoad(0, SALT), 5);
        Refusal.badArgument("of 25", () -> coolingBrine(5), more -> more.saltFor(0, 25));
    }

    /** That snow on a road of a warmth below 0, on which nothing falls any more. */
    private static GritWatch deepSnow(int snow) {
        GritWatch county = Counties.oneRoad(1);
        county.air(-20, false);
        county.pass(10);
        county.fall(0, 3, 0);
        Counties.pass(county, snow / 3);
        county.fall(0, 1, 0);
        Counties.pass(county, snow % 3);
        county.fall(0, 0, 0);
        Check.same("snow", county.ofRoad(0, 10), snow);
        return county;
    }

    private static void saltOfSixtyAndOfSixtyOne() {
        // of 18 snow 2 may be left: 16 thaw by 1 and a quarter of 60; 64 would thaw 17 of 19
        Check.same("17 snow", deepSnow(17).saltFor(0, 1), 56);
        Check.same("18 snow", deepSnow(18).saltFor(0, 1), 60);
        Check.same("19 snow", deepSnow(19).saltFor(0, 1), -1);
    }

    /** 3 snow and that salt (0 to 9) on a bridge of -1, which is going to be 2 colder in each quarter. */
    private static GritWatch bridgeWithSnow(int salt) {
        GritWatch county = new GritWatch();
        county.road(0, 1, 1, 1, 0, 0, true);
        county.lorry(false);
        county.load(0);
        county.air(-1, false);
        county.pass(2);
        county.fall(0, 3, 0);
        county.rate(0, salt);
        county.order(0, 0);
        county.pass(1);
        county.air(-20, false);
        county.fall(0, 0, 0);
        return county;
    }

    private static void saltOfWhichMoreWouldNotDo() {
        // 2 thaw 1 snow, and that 1 water freezes; 3 thaw 2 in two quarters, and those freeze
        int[] slippery = {1, 1, -1, 3, 4};
        for (int salt = 0; salt < slippery.length; salt++) {
            Check.same("with " + salt, bridgeWithSnow(salt).slipperyIn(0, 24), slippery[salt]);
        }
        Check.same("the least", bridgeWithSnow(0).saltFor(0, 24), 2);
        Check.same("one more than 1", bridgeWithSnow(1).saltFor(0, 24), 1);
        Check.same("none more than 2", bridgeWithSnow(2).saltFor(0, 24), 0);
        Check.isTrue("many more than 3", bridgeWithSnow(3).saltFor(0, 24) > 1);
    }

    private static void saltForBeyondTheLastQuarter() {
        GritWatch county = coolingBrine(5);
        county.air(20, false);
        Counties.pass(county, 199 - county.many(NOW));
        county.air(-20, false);
        Check.same("of 23 beyond 199", county.saltFor(0, 23), 0);
        Check.same("of 24 beyond 199", county.saltFor(0, 24), 1);
    }

    // ---- promise 21

    private static GritWatch chain(int roads, int rank) {
        GritWatch county = new GritWatch();
        county.lorry(false);
        for (int i = 0; i < roads; i++) {
            county.road(i, i + 1, 6, rank, 0, 0, false);
        }
        return county;
    }

    private static void rowOfNoRoads() {
        Check.same("without roads", chain(0, 0).bestOrders(0, 6), 1);
        Check.same("none of the class 0", chain(6, 1).bestOrders(0, 6), 1);
        GritWatch county = chain(1, 0);
        Check.same("one of the class 0", county.bestOrders(0, 0), 10);
        Check.same("one that cannot be reached", county.bestOrders(0, 6), 0);
    }

    private static void rowOfSixRoadsAndOfSeven() {
        GritWatch county = chain(5, 2);
        county.road(5, 6, 6, 0, 0, 0, false);
        Check.same("the sixth along five", county.bestOrders(0, 0), 1012345);
        GritWatch behind = new GritWatch();
        behind.lorry(false);
        behind.road(0, 1, 1, 0, 0, 0, false);
        for (int i = 1; i < 6; i++) {
            behind.road(i, i + 1, 1, 2, 0, 0, false);
        }
        Check.same("six to the first", behind.bestOrders(0, 6), 1543210);
        behind.road(6, 0, 1, 0, 0, 0, false);
        Check.same("and the seventh beside it", behind.bestOrders(0, 6), 160);
        Check.same("four and those two", behind.bestOrders(0, 4), 14560);
        Check.same("three and those two", behind.bestOrders(0, 3), 12106);
        // two of the class 0 at both ends of a chain of seven nodes: five between them
        GritWatch far = chain(6, 1);
        far.road(0, 1, 1, 0, 0, 0, false);
        far.road(5, 6, 1, 0, 0, 0, false);
        Check.same("six from one end to the other", far.bestOrders(0, 0), 1612347);
        Check.same("seven from the node 1", far.bestOrders(0, 1), 0);
    }

    private static void sixAndSevenOfTheClassNought() {
        GritWatch county = chain(6, 0);
        Check.same("six", county.bestOrders(0, 0), 1012345);
        county.road(6, 0, 1, 1, 0, 0, false);
        Check.same("six of seven roads", county.bestOrders(0, 0), 1012345);
        county.road(0, 6, 1, 0, 0, 0, false);
        Check.same("seven", county.bestOrders(0, 0), 0);
    }

    private static void rowOfWhateverLorry() {
        GritWatch county = Counties.crowd();
        for (int from = 0; from <= 6; from++) {
            long first = county.bestOrders(0, from);
            Check.same("of the second", county.bestOrders(1, from), first);
            Check.same("of the third", county.bestOrders(2, from), first);
        }
        Check.same("orders stay", county.ofLorry(0, 7), 8);
        GritWatch onARoad = Counties.lorryOnARoad();
        Check.same("on a road", onARoad.bestOrders(0, 0), 10);
        Check.same("it stays there", onARoad.ofLorry(0, 1), 0);
    }

    // ---- promise 22

    private static long digestOfRoad(GritWatch county, int road, long before) {
        long d = before;
        for (int what = 0; what <= 14; what++) {
            d = d * 31 + county.ofRoad(road, what);
        }
        d = d * 31 + county.slipperyIn(road, 8);
        return d * 31 + county.saltFor(road, 4);
    }

    private static long digestOfCounts(GritWatch county) {
        long d = 4808;
        for (int what = 0; what <= 14; what++) {
            d = d * 31 + county.many(what);
        }
        return d;
    }

    private static long digestOfWays(GritWatch county, long before) {
        long d = before;
        for (int node = 0; node <= 6; node++) {
            d = d * 31 + county.way(0, node);
        }
        return d;
    }

    private static void digestWithAndWithoutClaims() {
        GritWatch county = snowed(0);
        long atNought = digestOfRoad(county, 0, digestOfCounts(county));
        Check.same("at 0 without a claim", county.digest(), digestOfWays(county, atNought));
        county.pass(1);
        long atOne = digestOfRoad(county, 0, digestOfCounts(county)) * 31;
        Check.same("at 1 with a claim of 0", county.digest(), digestOfWays(county, atOne));
        county.pass(1);
        long atTwo = digestOfRoad(county, 0, digestOfCounts(county)) * 31 + 2;
        Check.same("at 2 with a claim of 2", county.digest(), digestOfWays(county, atTwo));
    }

    private static void digestWithAndWithoutALorry() {
        GritWatch county = new GritWatch();
        Check.same("without", county.digest(), digestOfWays(county, digestOfCounts(county)));
        county.lorry(true);
        long d = digestOfCounts(county);
        int[] due = {0, -1, 0, 0, 2, 1, 0, 0, 0};
        for (int v : due) {
            d = d * 31 + v;
        }
        Check.same("with one, and a row of no roads", county.digest(), digestOfWays(county, d) * 31 + 1);
    }

    // ---- 'An object is used for at most 512 calls'

    private static void theLastPromisedCall() {
        GritWatch county = Counties.oneRoad(0);
        for (int call = 2; call <= 511; call++) {
            int before = call == 2 ? 5 : (call - 1) % 41 - 20;
            Check.same("air in the call " + call, county.air(call % 41 - 20, false), before);
        }
        Check.same("the 512th", county.pass(1), 0);
    }
}
