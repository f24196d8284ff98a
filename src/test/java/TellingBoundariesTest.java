import java.math.BigInteger;

/**
 * Promises 1 to 12, where a sentence names a boundary of the county itself: empty, full, the last QUARTER, a LORRY that
 * is not where it should be. ArgumentsTest holds the bounds of the numbers that are told.
 */
public final class TellingBoundariesTest {
    private static final int NODE = 0;
    private static final int DONE = 2;
    private static final int HOPPER = 3;
    private static final int HOURS = 6;
    private static final int ORDERS = 7;
    private static final int SALT = 11;
    private static final int TREATED = 14;
    private static final int NOW = 1;
    private static final int BARN = 3;
    private static final int RETURNED = 8;
    private static final int FORECASTS = 11;
    private static final int ON_THEIR_WAY = 12;
    private static final int DELIVERED = 13;

    public static void main(String[] args) {
        newCountyRefusesRoadsAndLorries();
        newCountyIsEmpty();
        newDigestWrapsAround();
        eighthRoad();
        noRoadFromANodeToItself();
        twoRoadsBetweenTheSameNodes();
        roadAtTheLastQuarter();
        coldestAndWarmestAir();
        mostThatFalls();
        forecastOfGoalBelowNought();
        forecastOfNoRoadAndOfEight();
        twentiethForecast();
        forecastsBeyondTheLastQuarter();
        passToTheLastQuarter();
        passCountsFromNoneToAll();
        thirdLorry();
        rateOfTheQuarterInWhichItArrives();
        eighthOrder();
        eighthOrderOnARoad();
        roomForOrdersAgain();
        orderAlongARoadElsewhere();
        loadOfALittle();
        loadFromABarnOfNinetyAndOfLess();
        loadOnlyAtTheBarn();
        restOfHours();
        restOnlyAtANode();
        fortiethHour();
        droppedOrdersTakeHours();
        fifthDelivery();
        deliveriesInTheirQuarter();
        deliveriesBeyondTheLastQuarter();
        fullBarn();
        fullBarnOfSeveralDeliveries();
        Check.finish();
    }

    // ---- promise 1

    private static void newCountyRefusesRoadsAndLorries() {
        Refusal.Scene empty = GritWatch::new;
        Refusal.noPlace("order", empty, county -> county.order(0, 0));
        Refusal.noPlace("claim", empty, county -> county.claim(0, 0));
        Refusal.noPlace("ofRoad", empty, county -> county.ofRoad(0, 0));
        Refusal.noPlace("slipperyIn", empty, county -> county.slipperyIn(0, 1));
        Refusal.noPlace("saltFor", empty, county -> county.saltFor(0, 1));
        Refusal.noPlace("rate", empty, county -> county.rate(0, 0));
        Refusal.noPlace("load", empty, county -> county.load(0));
        Refusal.noPlace("rest", empty, county -> county.rest(0));
        Refusal.noPlace("ofLorry", empty, county -> county.ofLorry(0, 0));
        Refusal.noPlace("bestOrders", empty, county -> county.bestOrders(0, 0));
        Refusal.Scene roadAlone = () -> Counties.oneRoad(0);
        Refusal.none("ofRoad of the first road", roadAlone, county -> county.ofRoad(0, 0));
        Refusal.noPlace("order without a lorry", roadAlone, county -> county.order(0, 0));
        Refusal.noPlace("bestOrders without a lorry", roadAlone, county -> county.bestOrders(0, 0));
        Refusal.Scene lorryAlone = TellingBoundariesTest::lorryAlone;
        Refusal.none("ofLorry of the first lorry", lorryAlone, county -> county.ofLorry(0, 0));
        Refusal.noPlace("order without a road", lorryAlone, county -> county.order(0, 0));
    }

    private static GritWatch lorryAlone() {
        GritWatch county = new GritWatch();
        county.lorry(false);
        return county;
    }

    private static void newCountyIsEmpty() {
        GritWatch county = new GritWatch();
        Check.same("forecast of no roads", county.forecast(1, -20, -20, -20, true), 0);
        Check.same("slippery roads of none", county.pass(20), 0);
        Check.same("now", county.many(NOW), 20);
        Check.isTrue("meanWarmth of no roads", county.meanWarmth() == 0.0);
        Check.same("first road", county.road(0, 6, 1, 0, 0, 0, false), 0);
        Check.same("warmth of a road told later", county.ofRoad(0, 7), 3);
        Check.same("first lorry", county.lorry(false), 0);
    }

    /** Without roads and lorries: 15 times many(), then 7 times way(), as whole numbers cut to 64 bits at the end. */
    private static void newDigestWrapsAround() {
        int[] due = {0, 0, 0, 100, 0, 0, 0, 0, 0, 0, 0, 0, 0, 0, 0, 0, -1, -1, -1, -1, -1, -1};
        BigInteger d = BigInteger.valueOf(4808);
        for (int v : due) {
            d = d.multiply(BigInteger.valueOf(31)).add(BigInteger.valueOf(v));
        }
        Check.isTrue("the whole number is beyond 64 bits", d.bitLength() > 64);
        Check.same("digest", new GritWatch().digest(), d.longValue());
    }

    // ---- promise 2

    private static GritWatch roads(int count) {
        GritWatch county = new GritWatch();
        for (int i = 0; i < count; i++) {
            county.road(0, 1, 1, 2, 0, 0, false);
        }
        return county;
    }

    private static void eighthRoad() {
        GritWatch county = roads(7);
        Check.same("the eighth", county.road(5, 6, 1, 0, 0, 0, true), 7);
        Check.same("its node", county.ofRoad(7, 0), 5);
        Refusal.badState("a ninth", () -> roads(8), more -> more.road(5, 6, 1, 0, 0, 0, true));
    }

    private static void noRoadFromANodeToItself() {
        for (int node = 0; node <= 6; node++) {
            int same = node;
            Refusal.badArgument("from " + node + " to itself", Counties::night,
                county -> county.road(same, same, 1, 0, 0, 0, false));
            Refusal.none("from " + node + " to the next", Counties::night,
                county -> county.road(same, (same + 1) % 7, 1, 0, 0, 0, false));
        }
        Refusal.noPlace("from 7 to itself", Counties::night, county -> county.road(7, 7, 1, 0, 0, 0, false));
        Refusal.badArgument("a ninth to itself", () -> roads(8), county -> county.road(3, 3, 1, 0, 0, 0, false));
    }

    private static void twoRoadsBetweenTheSameNodes() {
        GritWatch county = roads(1);
        Check.same("as the first", county.road(0, 1, 1, 2, 0, 0, false), 1);
        Check.same("the other way round", county.road(1, 0, 1, 2, 0, 0, false), 2);
    }

    private static void roadAtTheLastQuarter() {
        GritWatch county = Counties.lastQuarter();
        Check.same("a road at 199", county.road(1, 2, 1, 0, 0, 0, false), 1);
        Check.same("was not slippery", county.claim(1, 199), 0);
        Check.same("is not", county.many(14), 1);
    }

    // ---- promises 3 and 4

    private static void coldestAndWarmestAir() {
        GritWatch county = new GritWatch();
        county.road(0, 1, 1, 2, 9, 2, true);
        Check.same("before", county.air(-20, true), 5);
        county.pass(20);
        Check.same("the least warmth", county.ofRoad(0, 7), -27);
        county.pass(1);
        Check.same("no less", county.ofRoad(0, 7), -27);
        Check.same("-20 before", county.air(20, false), -20);
        Counties.pass(county, 40);
        Check.same("the most of this road", county.ofRoad(0, 7), 15);
        Check.same("20 before", county.air(20, false), 20);
    }

    private static void mostThatFalls() {
        GritWatch county = Counties.oneRoad(2);
        Check.same("wind of a new county", county.fall(3, 3, 3), 0);
        county.pass(1);
        // one flake of three thaws
        Check.same("water", county.ofRoad(0, 8), 4);
        Check.same("snow", county.ofRoad(0, 10), 2);
        Check.same("wind 3 before", county.fall(0, 0, 0), 3);
        Check.same("wind 0 before", county.fall(0, 0, 0), 0);
    }

    // ---- promise 5

    private static void forecastOfGoalBelowNought() {
        // the goal is the air less 1, less 2, and less 2 more by a clear sky
        GritWatch county = new GritWatch();
        county.road(0, 1, 1, 0, 5, 2, false);
        Check.same("goals of 0", county.forecast(1, 3, 3, 3, false), 0);
        Check.same("goals of -1", county.forecast(1, 2, 2, 2, false), 1);
        Check.same("goals of 0 by a clear sky", county.forecast(1, 5, 5, 5, true), 0);
        Check.same("goals of -1 by a clear sky", county.forecast(1, 4, 4, 4, true), 1);
        Check.same("none of three", county.forecast(1, 20, 20, 3, false), 0);
        Check.same("one of three", county.forecast(1, 2, 3, 3, false), 0);
        Check.same("two of three", county.forecast(1, 2, 3, 2, false), 1);
    }

    private static void forecastOfNoRoadAndOfEight() {
        Check.same("no road", new GritWatch().forecast(48, -20, -20, -20, true), 0);
        Check.same("eight roads that freeze", roads(8).forecast(48, -1, -1, -1, false), 8);
        Check.same("eight that do not", roads(8).forecast(48, 0, 0, 0, false), 0);
    }

    private static GritWatch forecasts(int count) {
        GritWatch county = Counties.night();
        while (county.many(FORECASTS) < count) {
            county.forecast(1, -5, -5, -5, false);
        }
        return county;
    }

    private static void twentiethForecast() {
        GritWatch county = forecasts(19);
        Check.same("the twentieth", county.forecast(1, -5, -5, -5, false), 3);
        Check.same("kept", county.many(FORECASTS), 20);
        Refusal.badState("a 21st", () -> forecasts(20), more -> more.forecast(1, -5, -5, -5, false));
        Refusal.badState("a 21st behind all their quarters", () -> {
            GritWatch later = forecasts(20);
            later.pass(20);
            return later;
        }, more -> more.forecast(1, -5, -5, -5, false));
    }

    private static void forecastsBeyondTheLastQuarter() {
        GritWatch county = Counties.lastQuarter();
        Check.same("at 199", county.forecast(48, -5, -5, -5, false), 1);
        Check.same("kept", county.many(FORECASTS), 1);
        Check.same("claim of the last quarter", county.claim(0, 199), 2);
    }

    // ---- promise 6

    private static void passToTheLastQuarter() {
        GritWatch county = Counties.nightAt(179);
        county.pass(20);
        Check.same("179 and 20", county.many(NOW), 199);
        Refusal.badState("180 and 20", () -> Counties.nightAt(180), more -> more.pass(20));
        Refusal.none("180 and 19", () -> Counties.nightAt(180), more -> more.pass(19));
        Refusal.badArgument("180 and 21", () -> Counties.nightAt(180), more -> more.pass(21));
        Refusal.none("198 and 1", () -> Counties.nightAt(198), more -> more.pass(1));
        Refusal.badState("198 and 2", () -> Counties.nightAt(198), more -> more.pass(2));
        Refusal.badState("199 and 1", () -> Counties.nightAt(199), more -> more.pass(1));
        Refusal.badArgument("199 and 0", () -> Counties.nightAt(199), more -> more.pass(0));
    }

    private static void passCountsFromNoneToAll() {
        GritWatch county = roads(8);
        Check.same("none", county.pass(20), 0);
        county.air(-20, false);
        county.pass(10);
        county.fall(3, 0, 0);
        Check.same("eight in one quarter", county.pass(1), 8);
        Check.same("eight in twenty quarters", county.pass(20), 160);
        Check.same("times of the eighth", county.ofRoad(7, 13), 21);
    }

    // ---- promises 7 and 8

    private static GritWatch lorries(int count) {
        GritWatch county = Counties.oneRoad(0);
        for (int i = 0; i < count; i++) {
            county.lorry(i == 0);
        }
        return county;
    }

    private static void thirdLorry() {
        GritWatch county = lorries(2);
        Check.same("the third", county.lorry(true), 2);
        Check.same("its plough", county.ofLorry(2, 5), 1);
        Refusal.badState("a fourth", () -> lorries(3), more -> more.lorry(true));
        Refusal.badState("a fourth without a plough", () -> lorries(3), more -> more.lorry(false));
    }

    private static void rateOfTheQuarterInWhichItArrives() {
        GritWatch county = Counties.lorryOnARoad();
        Check.same("rate before", county.rate(0, 9), 2);
        county.pass(1);
        Check.same("not yet", county.ofRoad(0, SALT), 0);
        Check.same("rate 9 before", county.rate(0, 0), 9);
        Check.same("rate 0 before", county.rate(0, 5), 0);
        county.pass(1);
        Check.same("5 times 3", county.ofRoad(0, SALT), 15);
    }

    // ---- promise 9

    private static GritWatch orders(int count) {
        GritWatch county = lorries(1);
        county.road(1, 2, 4, 1, 0, 0, false);
        for (int i = 0; i < count; i++) {
            county.order(0, i % 2);
        }
        return county;
    }

    private static void eighthOrder() {
        GritWatch county = orders(7);
        Check.same("the eighth", county.order(0, 1), 8);
        Refusal.badState("a ninth", () -> orders(8), more -> more.order(0, 0));
        Refusal.noPlace("a ninth along no road", () -> orders(8), more -> more.order(0, 2));
        Refusal.noPlace("a ninth of no lorry", () -> orders(8), more -> more.order(1, 0));
        Check.same("the first of another lorry", beside(orders(8)).order(1, 0), 1);
    }

    private static GritWatch beside(GritWatch county) {
        county.lorry(false);
        return county;
    }

    private static void eighthOrderOnARoad() {
        Refusal.Scene onARoad = () -> {
            GritWatch county = orders(8);
            county.pass(2);
            county.order(0, 0);
            return county;
        };
        GritWatch county = onARoad.make();
        Check.same("on a road", county.ofLorry(0, NODE), -1);
        Check.same("with that which it is at", county.ofLorry(0, ORDERS), 8);
        Refusal.badState("a ninth", onARoad, more -> more.order(0, 0));
    }

    private static void roomForOrdersAgain() {
        GritWatch done = orders(8);
        done.pass(1);
        Check.same("behind one that is done", done.order(0, 0), 8);
        GritWatch dropped = orders(0);
        for (int i = 0; i < 8; i++) {
            dropped.order(0, 1);
        }
        dropped.pass(1);
        Check.same("still at the barn", dropped.ofLorry(0, NODE), 0);
        Check.same("behind one that is dropped", dropped.order(0, 0), 8);
        GritWatch rested = orders(8);
        rested.rest(0);
        Check.same("behind a rest", rested.order(0, 0), 1);
    }

    private static void orderAlongARoadElsewhere() {
        GritWatch county = orders(0);
        Check.same("a road of other nodes is taken", county.order(0, 1), 1);
        county.pass(1);
        Check.same("and dropped as it comes to it", county.ofLorry(0, ORDERS), 0);
        Check.same("for an hour", county.ofLorry(0, HOURS), 1);
        Check.same("at its node", county.ofLorry(0, NODE), 0);
    }

    // ---- promise 10

    private static void loadOfALittle() {
        GritWatch county = lorries(1);
        Check.same("an empty one", county.load(0), 90);
        Check.same("a full one", county.load(0), 0);
        county.rate(0, 1);
        county.order(0, 0);
        county.pass(1);
        county.rate(0, 0);
        county.order(0, 0);
        county.pass(1);
        Check.same("89 in it", county.ofLorry(0, HOPPER), 89);
        Check.same("one more", county.load(0), 1);
        Check.same("barn", county.many(BARN), 9);
    }

    private static void loadFromABarnOfNinetyAndOfLess() {
        int[] amounts = {79, 80, 81};
        int[] due = {89, 90, 90};
        int[] left = {0, 0, 1};
        for (int i = 0; i < amounts.length; i++) {
            GritWatch county = lorries(2);
            county.load(0);
            county.deliver(amounts[i], 1);
            county.pass(1);
            Check.same("barn of " + (amounts[i] + 10), county.load(1), due[i]);
            Check.same("what is left", county.many(BARN), left[i]);
        }
        GritWatch county = lorries(3);
        county.load(0);
        Check.same("the last 10", county.load(1), 10);
        Check.same("an empty barn", county.load(2), 0);
        Check.same("nothing in it", county.ofLorry(2, HOPPER), 0);
    }

    private static void loadOnlyAtTheBarn() {
        Refusal.badState("on a road from it", Counties::lorryOnARoad, county -> county.load(0));
        Refusal.Scene atTheOtherNode = () -> {
            GritWatch county = Counties.lorryOnARoad();
            county.rate(0, 9);
            county.pass(2);
            return county;
        };
        Refusal.badState("at the node 1", atTheOtherNode, county -> county.load(0));
        Refusal.Scene onTheWayBack = () -> {
            GritWatch county = atTheOtherNode.make();
            county.pass(2);
            return county;
        };
        Refusal.badState("on a road to it", onTheWayBack, county -> county.load(0));
        GritWatch back = onTheWayBack.make();
        back.pass(1);
        Check.same("back at it, with 36 in it", back.load(0), 10);
    }

    // ---- promise 11

    private static void restOfHours() {
        GritWatch county = lorries(1);
        Check.same("no hours", county.rest(0), 0);
        county.order(0, 0);
        county.pass(1);
        Check.same("one, away from the barn", county.rest(0), 1);
        Check.same("none any more", county.rest(0), 0);
    }

    private static void restOnlyAtANode() {
        Refusal.badState("with 1 of 3 done", Counties::lorryOnARoad, county -> county.rest(0));
        Refusal.Scene twoOfThree = () -> {
            GritWatch county = Counties.lorryOnARoad();
            county.pass(1);
            return county;
        };
        Check.same("done", twoOfThree.make().ofLorry(0, DONE), 2);
        Refusal.badState("with 2 of 3 done", twoOfThree, county -> county.rest(0));
        GritWatch county = twoOfThree.make();
        county.pass(1);
        Check.same("at the node 1", county.rest(0), 3);
        Check.same("orders are dropped", county.ofLorry(0, ORDERS), 0);
    }

    /** A lorry that has worked so many hours, to and fro along a road of the length 1, and has an order left. */
    private static GritWatch worked(int hours) {
        GritWatch county = lorries(1);
        for (int i = 0; i < hours; i++) {
            county.order(0, 0);
            if (i % 8 == 7) {
                county.pass(8);
            }
        }
        Counties.pass(county, hours % 8);
        county.order(0, 0);
        return county;
    }

    private static void fortiethHour() {
        GritWatch county = worked(39);
        Check.same("39 hours", county.ofLorry(0, HOURS), 39);
        Check.same("at the node 1", county.ofLorry(0, NODE), 1);
        county.pass(1);
        Check.same("the fortieth", county.ofLorry(0, HOURS), 40);
        Check.same("in which it works", county.ofLorry(0, NODE), 0);
        county.order(0, 0);
        county.pass(20);
        Check.same("no more", county.ofLorry(0, HOURS), 40);
        Check.same("it stays", county.ofLorry(0, NODE), 0);
        Check.same("with its order", county.ofLorry(0, ORDERS), 1);
        Check.same("treated in the fortieth", county.ofRoad(0, TREATED), 40);
        Check.same("rest", county.rest(0), 40);
        county.order(0, 0);
        county.pass(1);
        Check.same("works again", county.ofLorry(0, NODE), 1);
        Check.same("its first hour", county.ofLorry(0, HOURS), 1);
    }

    private static void droppedOrdersTakeHours() {
        GritWatch county = worked(40);
        county.rest(0);
        county.road(3, 4, 1, 0, 0, 0, false);
        for (int round = 0; round < 5; round++) {
            for (int i = 0; i < 8; i++) {
                county.order(0, 1);
            }
            county.pass(8);
        }
        Check.same("forty drops", county.ofLorry(0, HOURS), 40);
        county.order(0, 1);
        county.pass(1);
        Check.same("none is dropped at 40", county.ofLorry(0, ORDERS), 1);
        Check.same("no hour more", county.ofLorry(0, HOURS), 40);
    }

    // ---- promise 12

    private static GritWatch deliveries(int count) {
        GritWatch county = Counties.oneRoad(0);
        for (int i = 1; i <= count; i++) {
            county.deliver(1, i);
        }
        return county;
    }

    private static void fifthDelivery() {
        Check.same("the fifth", deliveries(4).deliver(500, 96), 5);
        Refusal.badState("a sixth", () -> deliveries(5), county -> county.deliver(500, 96));
        GritWatch county = deliveries(5);
        county.pass(1);
        Check.same("as one has come", county.deliver(1, 1), 5);
        Refusal.badState("a sixth again", () -> {
            GritWatch again = deliveries(5);
            again.pass(1);
            again.deliver(1, 9);
            return again;
        }, more -> more.deliver(1, 1));
        county.pass(4);
        Check.same("all have come", county.many(ON_THEIR_WAY), 0);
        Check.same("six of them", county.many(DELIVERED), 6);
    }

    private static void deliveriesInTheirQuarter() {
        GritWatch county = new GritWatch();
        county.deliver(7, 96);
        county.deliver(500, 1);
        county.pass(1);
        Check.same("in the next", county.many(BARN), 600);
        Counties.pass(county, 94);
        Check.same("not yet at 95", county.many(ON_THEIR_WAY), 1);
        county.pass(1);
        Check.same("at 96", county.many(BARN), 607);
        Check.same("none on their way", county.many(ON_THEIR_WAY), 0);
    }

    private static void deliveriesBeyondTheLastQuarter() {
        GritWatch county = new GritWatch();
        Counties.pass(county, 198);
        Check.same("for 199", county.deliver(1, 1), 1);
        Check.same("for 200", county.deliver(2, 2), 2);
        county.pass(1);
        Check.same("that for 199 came", county.many(BARN), 101);
        Check.same("the other never comes", county.many(ON_THEIR_WAY), 1);
        Check.same("for 295", county.deliver(500, 96), 2);
    }

    private static void fullBarn() {
        int[] amounts = {398, 399, 400};
        int[] barns = {998, 999, 999};
        int[] returned = {0, 0, 1};
        for (int i = 0; i < amounts.length; i++) {
            GritWatch county = new GritWatch();
            county.deliver(500, 1);
            county.deliver(amounts[i], 2);
            county.pass(2);
            Check.same("barn of 600 and " + amounts[i], county.many(BARN), barns[i]);
            Check.same("returned of " + amounts[i], county.many(RETURNED), returned[i]);
            Check.same("delivered without it", county.many(DELIVERED), barns[i] - 100);
            county.deliver(500, 1);
            county.pass(1);
            Check.same("full", county.many(BARN), 999);
            Check.same("delivered in all", county.many(DELIVERED), 899);
            Check.same("returned in all", county.many(RETURNED), 500 + amounts[i] + 500 - 899);
        }
    }

    private static void fullBarnOfSeveralDeliveries() {
        GritWatch county = new GritWatch();
        for (int i = 0; i < 5; i++) {
            county.deliver(300, 1);
        }
        county.pass(1);
        Check.same("full", county.many(BARN), 999);
        Check.same("delivered", county.many(DELIVERED), 899);
        Check.same("returned", county.many(RETURNED), 601);
        Check.same("none on their way", county.many(ON_THEIR_WAY), 0);
    }
}
