/** Promises 7 to 12 and 15: lorries, their orders and drivers, the barn and deliveries. */
public final class LorriesTest {
    private static final int NODE = 0;
    private static final int ROAD = 1;
    private static final int DONE = 2;
    private static final int HOPPER = 3;
    private static final int RATE = 4;
    private static final int PLOUGH = 5;
    private static final int HOURS = 6;
    private static final int ORDERS = 7;
    private static final int SPREAD = 8;
    private static final int SALT = 11;
    private static final int TREATED = 14;
    private static final int BARN = 3;

    public static void main(String[] args) {
        lorryNumbersAndFacts();
        lorryRefusals();
        rateBefore();
        rateRefusals();
        orderCounts();
        orderRefusals();
        drivesAlongOrders();
        drivesFromEitherEnd();
        dropsAnOrderOfNoRoadHere();
        stopsAtFortyHours();
        spreadsWhatTheHopperHas();
        treatedBySaltAlone();
        treatedByAPlough();
        lorriesGoBehindTheWeather();
        loads();
        loadRefusals();
        rests();
        restRefusals();
        delivers();
        deliversBehindTheLorries();
        returnsWhatIsTooMuch();
        deliverRefusals();
        ofLorryRefusals();
        Check.finish();
    }

    private static void facts(String when, GritWatch county, int lorry, int... due) {
        for (int what = 0; what < due.length; what++) {
            Check.same(when + ", lorry " + lorry + "'s " + what, county.ofLorry(lorry, what), due[what]);
        }
    }

    /** A road of that length between the nodes 0 and 1, and a loaded lorry. */
    private static GritWatch loaded(int length, boolean hasPlough) {
        GritWatch county = new GritWatch();
        county.road(0, 1, length, 2, 0, 0, false);
        county.lorry(hasPlough);
        county.load(0);
        return county;
    }

    private static void lorryNumbersAndFacts() {
        GritWatch county = new GritWatch();
        Check.same("first lorry", county.lorry(true), 0);
        Check.same("second lorry", county.lorry(false), 1);
        facts("new", county, 0, 0, -1, 0, 0, 2, 1, 0, 0, 0);
        facts("new", county, 1, 0, -1, 0, 0, 2, 0, 0, 0, 0);
        Check.same("lorries", county.many(2), 2);
        Check.same("third lorry", county.lorry(true), 2);
        Check.same("lorries", county.many(2), 3);
    }

    private static void lorryRefusals() {
        GritWatch county = new GritWatch();
        county.lorry(true);
        county.lorry(true);
        county.lorry(true);
        Check.badState("a fourth lorry", county, () -> county.lorry(true));
        Check.badState("a fourth lorry without plough", county, () -> county.lorry(false));
        Check.same("lorries", county.many(2), 3);
    }

    private static void rateBefore() {
        GritWatch county = new GritWatch();
        county.lorry(false);
        county.lorry(false);
        Check.same("rate", county.rate(1, 9), 2);
        Check.same("rate again", county.rate(1, 0), 9);
        Check.same("rate a third time", county.rate(1, 5), 0);
        Check.same("its rate", county.ofLorry(1, RATE), 5);
        Check.same("the other's rate", county.ofLorry(0, RATE), 2);
    }

    private static void rateRefusals() {
        GritWatch county = new GritWatch();
        county.lorry(false);
        Check.noPlace("rate of lorry 1", county, () -> county.rate(1, 3));
        Check.noPlace("rate of lorry -1", county, () -> county.rate(-1, 3));
        Check.noPlace("rate of lorry 3", county, () -> county.rate(3, 3));
        Check.badArgument("rate 10", county, () -> county.rate(0, 10));
        Check.badArgument("rate -1", county, () -> county.rate(0, -1));
        Check.noPlace("rate 10 of lorry 1", county, () -> county.rate(1, 10));
        Check.same("rate is kept", county.ofLorry(0, RATE), 2);
    }

    private static void orderCounts() {
        GritWatch county = new GritWatch();
        county.road(0, 1, 1, 0, 0, 0, false);
        county.lorry(false);
        county.lorry(false);
        for (int i = 1; i <= 8; i++) {
            Check.same("orders", county.order(0, 0), i);
            Check.same("its orders", county.ofLorry(0, ORDERS), i);
        }
        Check.same("the other's orders", county.ofLorry(1, ORDERS), 0);
        Check.badState("a ninth order", county, () -> county.order(0, 0));
        county.pass(1);
        Check.same("one is done", county.ofLorry(0, ORDERS), 7);
        Check.same("orders again", county.order(0, 0), 8);
        Check.badState("a ninth again", county, () -> county.order(0, 0));
    }

    private static void orderRefusals() {
        GritWatch county = new GritWatch();
        county.lorry(false);
        Check.noPlace("order along road 0", county, () -> county.order(0, 0));
        county.road(0, 1, 1, 0, 0, 0, false);
        Check.noPlace("order along road 1", county, () -> county.order(0, 1));
        Check.noPlace("order along road -1", county, () -> county.order(0, -1));
        Check.noPlace("order along road 8", county, () -> county.order(0, 8));
        Check.noPlace("order of lorry 1", county, () -> county.order(1, 0));
        Check.noPlace("order of lorry -1", county, () -> county.order(-1, 0));
        Check.noPlace("order of lorry 3", county, () -> county.order(3, 0));
        for (int i = 0; i < 8; i++) {
            county.order(0, 0);
        }
        Check.noPlace("a ninth order along no road", county, () -> county.order(0, 1));
        Check.badState("a ninth order", county, () -> county.order(0, 0));
    }

    private static void drivesAlongOrders() {
        GritWatch county = new GritWatch();
        county.road(0, 1, 3, 2, 0, 0, false);
        county.road(1, 2, 1, 2, 0, 0, false);
        county.road(2, 3, 2, 2, 0, 0, false);
        county.lorry(false);
        county.load(0);
        county.order(0, 0);
        county.order(0, 1);
        county.order(0, 2);
        county.pass(1);
        facts("behind 1", county, 0, -1, 0, 1, 90, 2, 0, 1, 3, 0);
        county.pass(1);
        facts("behind 2", county, 0, -1, 0, 2, 90, 2, 0, 2, 3, 0);
        Check.same("not treated yet", county.ofRoad(0, TREATED), -1);
        county.pass(1);
        facts("behind 3", county, 0, 1, -1, 0, 84, 2, 0, 3, 2, 6);
        Check.same("treated", county.ofRoad(0, TREATED), 3);
        Check.same("salt", county.ofRoad(0, SALT), 6);
        county.pass(1);
        facts("behind 4", county, 0, 2, -1, 0, 82, 2, 0, 4, 1, 8);
        Check.same("treated at once", county.ofRoad(1, TREATED), 4);
        county.pass(1);
        facts("behind 5", county, 0, -1, 2, 1, 82, 2, 0, 5, 1, 8);
        county.pass(1);
        facts("behind 6", county, 0, 3, -1, 0, 78, 2, 0, 6, 0, 12);
        county.pass(5);
        facts("without orders", county, 0, 3, -1, 0, 78, 2, 0, 6, 0, 12);
        Check.same("salt on roads", county.many(5), 12);
        Check.same("salt in hoppers", county.many(4), 78);
    }

    private static void drivesFromEitherEnd() {
        GritWatch county = new GritWatch();
        county.road(5, 0, 2, 2, 0, 0, false);
        county.lorry(false);
        county.order(0, 0);
        county.order(0, 0);
        county.pass(2);
        Check.same("at the node told first", county.ofLorry(0, NODE), 5);
        county.pass(2);
        Check.same("back at the barn", county.ofLorry(0, NODE), 0);
        Check.same("hours", county.ofLorry(0, HOURS), 4);
    }

    private static void dropsAnOrderOfNoRoadHere() {
        GritWatch county = new GritWatch();
        county.road(1, 2, 1, 2, 0, 0, false);
        county.road(0, 1, 1, 2, 0, 0, false);
        county.lorry(true);
        county.load(0);
        county.order(0, 0);
        county.order(0, 1);
        county.pass(1);
        facts("dropped", county, 0, 0, -1, 0, 90, 2, 1, 1, 1, 0);
        Check.same("not treated", county.ofRoad(0, TREATED), -1);
        county.pass(1);
        facts("then the next one", county, 0, 1, -1, 0, 88, 2, 1, 2, 0, 2);
        Check.same("treated", county.ofRoad(1, TREATED), 2);
    }

    private static void stopsAtFortyHours() {
        GritWatch county = new GritWatch();
        county.road(0, 1, 1, 2, 0, 0, false);
        county.road(1, 0, 6, 2, 0, 0, false);
        county.lorry(false);
        for (int i = 0; i < 19; i++) {
            county.order(0, 0);
            county.order(0, 0);
            county.pass(2);
        }
        Check.same("38 hours", county.ofLorry(0, HOURS), 38);
        county.order(0, 0);
        county.order(0, 1);
        county.pass(2);
        facts("at 40", county, 0, -1, 1, 1, 0, 2, 0, 40, 1, 0);
        county.pass(20);
        facts("still at 40", county, 0, -1, 1, 1, 0, 2, 0, 40, 1, 0);
        Check.badState("no rest on a road", county, () -> county.rest(0));
        Check.same("orders are taken", county.order(0, 0), 2);
    }

    private static void spreadsWhatTheHopperHas() {
        GritWatch county = loaded(6, false);
        county.rate(0, 9);
        county.order(0, 0);
        county.order(0, 0);
        county.order(0, 0);
        county.pass(6);
        Check.same("54 of 90", county.ofRoad(0, SALT), 54);
        county.pass(6);
        Check.same("the other 36", county.ofRoad(0, SALT), 90);
        Check.same("hopper is empty", county.ofLorry(0, HOPPER), 0);
        Check.same("treated by what there was", county.ofRoad(0, TREATED), 12);
        county.pass(6);
        Check.same("no more", county.ofRoad(0, SALT), 90);
        Check.same("spread ever", county.ofLorry(0, SPREAD), 90);
        Check.same("not treated by nothing", county.ofRoad(0, TREATED), 12);
    }

    private static void treatedBySaltAlone() {
        GritWatch county = loaded(1, false);
        county.rate(0, 0);
        county.order(0, 0);
        county.pass(1);
        Check.same("rate 0", county.ofRoad(0, TREATED), -1);
        Check.same("hopper is full", county.ofLorry(0, HOPPER), 90);
        county.rate(0, 1);
        county.order(0, 0);
        county.pass(1);
        Check.same("rate 1", county.ofRoad(0, TREATED), 2);
        Check.same("salt 1", county.ofRoad(0, SALT), 1);
        Check.same("snow stays without a plough", county.many(10), 0);
    }

    private static void treatedByAPlough() {
        GritWatch county = new GritWatch();
        county.road(0, 1, 1, 2, 0, 0, false);
        county.lorry(true);
        county.order(0, 0);
        county.pass(1);
        Check.same("by a plough without snow and salt", county.ofRoad(0, TREATED), 1);
        county.air(-20, false);
        county.pass(10);
        county.fall(0, 3, 0);
        county.pass(2);
        Check.same("snow", county.ofRoad(0, 10), 6);
        county.order(0, 0);
        county.fall(0, 0, 0);
        Check.same("slippery ahead of the plough", county.pass(1), 1);
        Check.same("ploughed", county.ofRoad(0, 10), 0);
        Check.same("ploughed ever", county.many(10), 6);
        Check.same("no salt to the fields", county.many(7), 0);
        Check.same("slippery in this quarter all the same", county.many(14), 1);
        Check.same("not in the next", county.pass(1), 0);
        Check.same("none now", county.many(14), 0);
        Check.same("treated", county.ofRoad(0, TREATED), 14);
    }

    private static void lorriesGoBehindTheWeather() {
        GritWatch county = loaded(1, false);
        county.air(-20, false);
        county.fall(2, 0, 0);
        county.rate(0, 9);
        county.pass(3);
        county.order(0, 0);
        // frozen ahead of the salt of the same quarter
        Check.same("fourth quarter", county.pass(1), 1);
        Check.same("ice", county.ofRoad(0, 9), 2);
        Check.same("salt", county.ofRoad(0, SALT), 9);
    }

    private static void loads() {
        GritWatch county = new GritWatch();
        county.road(0, 1, 1, 2, 0, 0, false);
        county.lorry(false);
        county.lorry(false);
        Check.same("first load", county.load(0), 90);
        Check.same("load of a full one", county.load(0), 0);
        Check.same("what is left", county.load(1), 10);
        Check.same("barn", county.many(BARN), 0);
        Check.same("hoppers", county.many(4), 100);
        county.order(0, 0);
        county.order(0, 0);
        county.pass(2);
        Check.same("load of an empty barn", county.load(0), 0);
        county.deliver(100, 1);
        county.pass(1);
        Check.same("fills up", county.load(0), 4);
        Check.same("its hopper", county.ofLorry(0, HOPPER), 90);
        Check.same("barn", county.many(BARN), 96);
    }

    private static void loadRefusals() {
        GritWatch county = new GritWatch();
        county.road(0, 1, 2, 2, 0, 0, false);
        county.lorry(false);
        Check.noPlace("load of lorry 1", county, () -> county.load(1));
        Check.noPlace("load of lorry -1", county, () -> county.load(-1));
        Check.noPlace("load of lorry 3", county, () -> county.load(3));
        county.order(0, 0);
        county.pass(1);
        Check.badState("load on a road", county, () -> county.load(0));
        county.pass(1);
        Check.badState("load at node 1", county, () -> county.load(0));
        county.order(0, 0);
        county.pass(2);
        Check.same("load back at the barn", county.load(0), 90);
    }

    private static void rests() {
        GritWatch county = new GritWatch();
        county.road(0, 1, 1, 2, 0, 0, false);
        county.lorry(false);
        for (int i = 0; i < 5; i++) {
            county.order(0, 0);
        }
        county.pass(3);
        Check.same("hours before", county.rest(0), 3);
        facts("rested", county, 0, 1, -1, 0, 0, 2, 0, 0, 0, 0);
        county.pass(3);
        facts("orders are dropped", county, 0, 1, -1, 0, 0, 2, 0, 0, 0, 0);
        Check.same("nothing before", county.rest(0), 0);
        Check.same("orders anew", county.order(0, 0), 1);
        county.pass(1);
        Check.same("drives on", county.ofLorry(0, NODE), 0);
    }

    private static void restRefusals() {
        GritWatch county = new GritWatch();
        county.road(0, 1, 2, 2, 0, 0, false);
        county.lorry(false);
        Check.noPlace("rest of lorry 1", county, () -> county.rest(1));
        Check.noPlace("rest of lorry -1", county, () -> county.rest(-1));
        Check.noPlace("rest of lorry 3", county, () -> county.rest(3));
        county.order(0, 0);
        county.pass(1);
        Check.badState("rest on a road", county, () -> county.rest(0));
        Check.same("orders are kept", county.ofLorry(0, ORDERS), 1);
        Check.same("road is kept", county.ofLorry(0, ROAD), 0);
        Check.same("done is kept", county.ofLorry(0, DONE), 1);
    }

    private static void delivers() {
        GritWatch county = new GritWatch();
        Check.same("first", county.deliver(30, 2), 1);
        Check.same("second", county.deliver(1, 1), 2);
        Check.same("third", county.deliver(500, 96), 3);
        Check.same("on their way", county.many(12), 3);
        county.pass(1);
        Check.same("barn behind 1", county.many(BARN), 101);
        Check.same("delivered behind 1", county.many(13), 1);
        Check.same("on their way behind 1", county.many(12), 2);
        county.pass(1);
        Check.same("barn behind 2", county.many(BARN), 131);
        Check.same("delivered behind 2", county.many(13), 31);
        Check.same("a new one", county.deliver(5, 1), 2);
        for (int i = 0; i < 5; i++) {
            county.pass(18);
        }
        county.pass(3);
        Check.same("now", county.many(1), 95);
        Check.same("barn behind 95", county.many(BARN), 136);
        county.pass(1);
        Check.same("barn behind 96", county.many(BARN), 636);
        Check.same("none on their way", county.many(12), 0);
        Check.same("none returned", county.many(8), 0);
    }

    private static void deliversBehindTheLorries() {
        GritWatch county = loaded(1, true);
        county.order(0, 0);
        county.order(0, 0);
        county.deliver(50, 2);
        county.pass(2);
        Check.same("barn", county.many(BARN), 60);
        Check.same("hopper is not filled by it", county.ofLorry(0, HOPPER), 86);
        Check.same("plough", county.ofLorry(0, PLOUGH), 1);
    }

    private static void returnsWhatIsTooMuch() {
        GritWatch county = new GritWatch();
        county.deliver(500, 1);
        county.deliver(399, 1);
        county.pass(1);
        Check.same("999 at most", county.many(BARN), 999);
        Check.same("none returned", county.many(8), 0);
        county.deliver(1, 1);
        county.pass(1);
        Check.same("still 999", county.many(BARN), 999);
        Check.same("1 returned", county.many(8), 1);
        Check.same("without what was returned", county.many(13), 899);
        county.lorry(false);
        county.load(0);
        county.deliver(100, 1);
        county.pass(1);
        Check.same("999 again", county.many(BARN), 999);
        Check.same("10 more returned", county.many(8), 11);
        Check.same("90 more delivered", county.many(13), 989);
    }

    private static void deliverRefusals() {
        GritWatch county = new GritWatch();
        Check.badArgument("amount 0", county, () -> county.deliver(0, 1));
        Check.badArgument("amount 501", county, () -> county.deliver(501, 1));
        Check.badArgument("later 0", county, () -> county.deliver(1, 0));
        Check.badArgument("later 97", county, () -> county.deliver(1, 97));
        for (int i = 1; i <= 5; i++) {
            Check.same("on their way", county.deliver(1, i), i);
        }
        Check.badState("a sixth", county, () -> county.deliver(1, 1));
        Check.badArgument("a sixth of 0", county, () -> county.deliver(0, 1));
        Check.badArgument("a sixth in 97", county, () -> county.deliver(1, 97));
        county.pass(1);
        Check.same("one came", county.deliver(1, 1), 5);
    }

    private static void ofLorryRefusals() {
        GritWatch county = new GritWatch();
        county.lorry(false);
        Check.noPlace("lorry 1", county, () -> county.ofLorry(1, 0));
        Check.noPlace("lorry -1", county, () -> county.ofLorry(-1, 0));
        Check.noPlace("lorry 3", county, () -> county.ofLorry(3, 0));
        Check.badArgument("what 9", county, () -> county.ofLorry(0, 9));
        Check.badArgument("what -1", county, () -> county.ofLorry(0, -1));
        Check.noPlace("what 9 of lorry 1", county, () -> county.ofLorry(1, 9));
    }
}
