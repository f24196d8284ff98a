/** Promises 19 to 22: what would be, and that asking it changes nothing. */
public final class WouldBeTest {
    public static void main(String[] args) {
        slipperyInIsAsItComes();
        slipperyInWithoutLorries();
        slipperyInBeyondTheLastQuarter();
        slipperyInRefusals();
        saltForAStandingWater();
        saltForASprayedRoad();
        saltForBesidesWhatIsThere();
        saltForNoneOfSixty();
        saltForSixtyOfSixtyOne();
        saltForRefusals();
        bestOrdersPlain();
        bestOrdersOfEqualRows();
        bestOrdersOfSixRoads();
        bestOrdersGoTwice();
        bestOrdersWhateverTheLorryHas();
        bestOrdersRefusals();
        digestOfTheFace();
        digestOfEightQuarters();
        digestOfTheRowFromTheBarn();
        askingChangesNothing();
        Check.finish();
    }

    private static GritWatch oneRoad(int rank) {
        GritWatch county = new GritWatch();
        county.road(0, 1, 1, rank, 0, 0, false);
        return county;
    }

    /** A road of that class with 2 water on it and a warmth of 0, on which nothing falls any more. */
    private static GritWatch wetRoad(int rank) {
        GritWatch county = oneRoad(rank);
        county.air(0, false);
        county.pass(2);
        county.fall(2, 0, 0);
        county.pass(1);
        county.fall(0, 0, 0);
        return county;
    }

    private static void slipperyInIsAsItComes() {
        GritWatch county = oneRoad(1);
        Check.same("never", county.slipperyIn(0, 24), -1);
        county.air(-20, false);
        county.fall(2, 0, 0);
        Check.same("in the fourth", county.slipperyIn(0, 24), 4);
        Check.same("in just four", county.slipperyIn(0, 4), 4);
        Check.same("not in three", county.slipperyIn(0, 3), -1);
        county.pass(3);
        Check.same("in the next", county.slipperyIn(0, 1), 1);
        Check.same("none yet", county.ofRoad(0, 13), 0);
        Check.same("as foretold", county.pass(1), 1);
        Check.same("still", county.slipperyIn(0, 1), 1);
        county.air(20, false);
        county.fall(0, 0, 0);
        Check.same("2 ice, warmth 0: it thaws at once", county.slipperyIn(0, 24), -1);
    }

    private static void slipperyInWithoutLorries() {
        GritWatch county = new GritWatch();
        county.road(0, 1, 1, 1, 0, 0, false);
        county.lorry(true);
        county.air(-20, false);
        county.pass(10);
        county.fall(0, 1, 0);
        county.order(0, 0);
        county.order(0, 0);
        county.order(0, 0);
        Check.same("as if nobody ploughed", county.slipperyIn(0, 24), 3);
        Check.same("but somebody does", county.pass(3), 0);
    }

    private static void slipperyInBeyondTheLastQuarter() {
        GritWatch county = oneRoad(1);
        for (int i = 0; i < 9; i++) {
            county.pass(20);
        }
        county.pass(19);
        Check.same("now", county.many(1), 199);
        county.air(-18, false);
        county.fall(1, 0, 0);
        // from a warmth of 5: below 0 in the sixth, with 6 water on it
        Check.same("beyond 199", county.slipperyIn(0, 24), 6);
        Check.isTrue("salt for quarters beyond 199", county.saltFor(0, 24) != 0);
        Check.same("now stays", county.many(1), 199);
    }

    private static void slipperyInRefusals() {
        GritWatch county = oneRoad(1);
        Check.noPlace("road 1", county, () -> county.slipperyIn(1, 1));
        Check.noPlace("road -1", county, () -> county.slipperyIn(-1, 1));
        Check.noPlace("road 8", county, () -> county.slipperyIn(8, 1));
        Check.badArgument("quarters 0", county, () -> county.slipperyIn(0, 0));
        Check.badArgument("quarters -1", county, () -> county.slipperyIn(0, -1));
        Check.badArgument("quarters 25", county, () -> county.slipperyIn(0, 25));
        Check.noPlace("quarters 25 of road 1", county, () -> county.slipperyIn(1, 25));
    }

    private static void saltForAStandingWater() {
        GritWatch county = wetRoad(1);
        Check.same("nothing to fear", county.saltFor(0, 24), 0);
        county.air(-3, false);
        Check.same("slippery without", county.slipperyIn(0, 24), 1);
        Check.same("warmth -1", county.saltFor(0, 1), 1);
        Check.same("warmth -3 at the point of 1 salt", county.saltFor(0, 24), 1);
        county.air(-4, false);
        Check.same("three quarters to -4", county.saltFor(0, 3), 1);
        Check.same("warmth -4", county.saltFor(0, 4), 2);
        county.air(-20, false);
        Check.same("warmth -20", county.saltFor(0, 24), 7);
        county.air(-20, true);
        Check.same("warmth -21", county.saltFor(0, 21), 7);
        Check.same("warmth -22 is below every point", county.saltFor(0, 22), -1);
    }

    private static void saltForASprayedRoad() {
        GritWatch county = wetRoad(0);
        county.air(-4, false);
        Check.same("3 sprayed away before the cold", county.saltFor(0, 4), 5);
        Check.same("and so on", county.saltFor(0, 24), 25);
        GritWatch windy = wetRoad(2);
        windy.air(-4, false);
        windy.fall(0, 0, 3);
        Check.same("no wind takes it from the wet", windy.saltFor(0, 24), 2);
    }

    private static void saltForBesidesWhatIsThere() {
        GritWatch county = wetRoad(1);
        county.lorry(false);
        county.load(0);
        county.rate(0, 3);
        county.order(0, 0);
        county.pass(1);
        Check.same("salt that is there", county.ofRoad(0, 11), 3);
        county.air(-20, false);
        Check.same("3 of 7 are there", county.saltFor(0, 24), 4);
        county.air(-9, false);
        Check.same("3 are enough", county.saltFor(0, 24), 0);
        county.air(-10, false);
        Check.same("one more", county.saltFor(0, 24), 1);
        Check.same("and it was not spread", county.ofRoad(0, 11), 3);
    }

    private static void saltForNoneOfSixty() {
        GritWatch county = oneRoad(1);
        county.air(-20, false);
        county.pass(10);
        county.fall(0, 3, 0);
        county.pass(7);
        Check.same("snow", county.ofRoad(0, 10), 21);
        Check.same("warmth", county.ofRoad(0, 7), -14);
        county.fall(0, 0, 0);
        // 60 salt thaw 16 of 21: point -17 of 60 and 21
        Check.same("60 are too few", county.saltFor(0, 1), -1);
        GritWatch less = oneRoad(1);
        less.air(-20, false);
        less.pass(10);
        less.fall(0, 3, 0);
        less.pass(6);
        less.fall(0, 0, 0);
        // 18 snow: 60 thaw 16 and leave 2; 59 thaw 15 and leave 3
        Check.same("60 are just enough", less.saltFor(0, 1), 60);
    }

    private static void saltForSixtyOfSixtyOne() {
        GritWatch county = wetRoad(0);
        county.air(-20, false);
        county.fall(1, 0, 0);
        Check.same("61 would do", county.saltFor(0, 14), -1);
        county.air(0, false);
        county.fall(0, 0, 0);
        county.lorry(false);
        county.load(0);
        county.rate(0, 1);
        county.order(0, 0);
        county.pass(1);
        Check.same("salt that is there", county.ofRoad(0, 11), 1);
        county.air(-20, false);
        county.fall(1, 0, 0);
        Check.same("60 and that", county.saltFor(0, 14), 60);
    }

    private static void saltForRefusals() {
        GritWatch county = oneRoad(1);
        Check.noPlace("road 1", county, () -> county.saltFor(1, 1));
        Check.noPlace("road -1", county, () -> county.saltFor(-1, 1));
        Check.noPlace("road 8", county, () -> county.saltFor(8, 1));
        Check.badArgument("quarters 0", county, () -> county.saltFor(0, 0));
        Check.badArgument("quarters -1", county, () -> county.saltFor(0, -1));
        Check.badArgument("quarters 25", county, () -> county.saltFor(0, 25));
        Check.noPlace("quarters 0 of road 1", county, () -> county.saltFor(1, 0));
    }

    private static void bestOrdersPlain() {
        GritWatch county = new GritWatch();
        county.lorry(false);
        Check.same("no roads", county.bestOrders(0, 5), 1);
        county.road(2, 3, 1, 1, 0, 0, false);
        Check.same("none of the class 0", county.bestOrders(0, 2), 1);
        county.road(3, 4, 2, 0, 0, 0, false);
        Check.same("at its end", county.bestOrders(0, 3), 11);
        Check.same("at its other end", county.bestOrders(0, 4), 11);
        Check.same("along another", county.bestOrders(0, 2), 101);
        Check.same("no way there", county.bestOrders(0, 6), 0);
    }

    private static void bestOrdersOfEqualRows() {
        GritWatch county = new GritWatch();
        county.lorry(false);
        county.road(2, 3, 1, 0, 0, 0, false);
        county.road(0, 2, 5, 1, 0, 0, false);
        county.road(0, 1, 2, 1, 0, 0, false);
        county.road(1, 2, 2, 2, 0, 0, false);
        Check.same("shorter with more roads", county.bestOrders(0, 0), 1230);
        county.road(0, 2, 4, 1, 0, 0, false);
        Check.same("fewer of equal length", county.bestOrders(0, 0), 140);
        county.road(0, 2, 4, 1, 0, 0, false);
        Check.same("smaller of equal count", county.bestOrders(0, 0), 140);
        county.road(0, 2, 3, 1, 0, 0, false);
        Check.same("shorter again", county.bestOrders(0, 0), 160);
        GritWatch ring = new GritWatch();
        ring.lorry(false);
        ring.road(2, 0, 1, 0, 0, 0, false);
        ring.road(0, 1, 1, 0, 0, 0, false);
        ring.road(1, 2, 1, 0, 0, 0, false);
        Check.same("smaller way round", ring.bestOrders(0, 0), 1021);
        Check.same("from 1", ring.bestOrders(0, 1), 1102);
        Check.same("from 2", ring.bestOrders(0, 2), 1012);
    }

    private static void bestOrdersOfSixRoads() {
        GritWatch county = new GritWatch();
        county.lorry(false);
        for (int i = 0; i < 6; i++) {
            county.road(i, i + 1, 6, 0, 0, 0, false);
        }
        Check.same("six in a row", county.bestOrders(0, 0), 1012345);
        Check.same("and back", county.bestOrders(0, 6), 1543210);
        Check.same("more than six from the middle", county.bestOrders(0, 3), 0);
        county.road(6, 0, 6, 1, 0, 0, false);
        Check.same("a seventh road need not be in it", county.bestOrders(0, 0), 1012345);
        Check.same("round it would be seven", county.bestOrders(0, 3), 0);
        county.road(0, 6, 1, 0, 0, 0, false);
        Check.same("seven of the class 0", county.bestOrders(0, 0), 0);
        GritWatch last = new GritWatch();
        last.lorry(false);
        for (int i = 0; i < 6; i++) {
            last.road(i, i + 1, 1, i == 5 ? 0 : 2, 0, 0, false);
        }
        Check.same("the sixth alone", last.bestOrders(0, 0), 1012345);
        GritWatch eight = new GritWatch();
        eight.lorry(false);
        for (int i = 0; i < 8; i++) {
            eight.road(0, 1, 6, i < 2 ? 1 : 0, 0, 0, false);
        }
        Check.same("the six highest numbers", eight.bestOrders(0, 0), 1234567);
        GritWatch all = new GritWatch();
        all.lorry(false);
        for (int i = 0; i < 8; i++) {
            all.road(0, 1, 1, 0, 0, 0, false);
        }
        Check.same("eight of the class 0", all.bestOrders(0, 0), 0);
    }

    private static void bestOrdersGoTwice() {
        GritWatch county = new GritWatch();
        county.lorry(false);
        county.road(0, 1, 3, 0, 0, 0, false);
        county.road(0, 2, 1, 0, 0, 0, false);
        Check.same("twice along the shorter", county.bestOrders(0, 0), 1110);
        Check.same("from an end once each", county.bestOrders(0, 1), 101);
        county.road(0, 3, 2, 0, 0, 0, false);
        Check.same("three in a star", county.bestOrders(0, 0), 111220);
        county.road(0, 4, 2, 0, 0, 0, false);
        Check.same("four would be seven", county.bestOrders(0, 0), 0);
        Check.same("four from a leaf are six too many", county.bestOrders(0, 4), 1311220);
    }

    private static void bestOrdersWhateverTheLorryHas() {
        GritWatch county = new GritWatch();
        county.road(0, 1, 3, 0, 0, 0, false);
        county.lorry(false);
        county.lorry(true);
        county.order(0, 0);
        county.pass(1);
        Check.same("on a road", county.bestOrders(0, 0), 10);
        Check.same("another lorry", county.bestOrders(1, 1), 10);
        Check.same("its order stays", county.ofLorry(0, 7), 1);
    }

    private static void bestOrdersRefusals() {
        GritWatch county = new GritWatch();
        Check.noPlace("without lorries", county, () -> county.bestOrders(0, 0));
        county.lorry(false);
        Check.noPlace("lorry 1", county, () -> county.bestOrders(1, 0));
        Check.noPlace("lorry -1", county, () -> county.bestOrders(-1, 0));
        Check.noPlace("lorry 3", county, () -> county.bestOrders(3, 0));
        Check.noPlace("node 7", county, () -> county.bestOrders(0, 7));
        Check.noPlace("node -1", county, () -> county.bestOrders(0, -1));
    }

    private static long digestByFace(GritWatch county) {
        long d = 4808;
        for (int what = 0; what <= 14; what++) {
            d = d * 31 + county.many(what);
        }
        for (int road = 0; road < county.many(0); road++) {
            for (int what = 0; what <= 14; what++) {
                d = d * 31 + county.ofRoad(road, what);
            }
            d = d * 31 + county.slipperyIn(road, 8);
            d = d * 31 + county.saltFor(road, 4);
            if (county.many(1) > 0) {
                d = d * 31 + county.claim(road, county.many(1));
            }
        }
        for (int lorry = 0; lorry < county.many(2); lorry++) {
            for (int what = 0; what <= 8; what++) {
                d = d * 31 + county.ofLorry(lorry, what);
            }
        }
        for (int node = 0; node <= 6; node++) {
            d = d * 31 + county.way(0, node);
        }
        return county.many(2) > 0 ? d * 31 + county.bestOrders(0, 0) : d;
    }

    private static void digestOfTheFace() {
        GritWatch county = new GritWatch();
        Check.same("new", county.digest(), digestByFace(county));
        county.road(0, 1, 1, 0, 2, 1, false);
        county.road(1, 3, 4, 2, 9, 2, true);
        Check.same("with roads", county.digest(), digestByFace(county));
        county.lorry(true);
        county.lorry(false);
        county.load(0);
        county.order(0, 0);
        county.order(0, 1);
        Check.same("with lorries", county.digest(), digestByFace(county));
        county.air(-9, true);
        county.fall(2, 1, 2);
        county.forecast(9, -3, -3, 2, false);
        county.deliver(17, 3);
        // not more often: an object is promised to answer 512 calls
        for (int i = 1; i <= 3; i++) {
            county.pass(4);
            Check.same("behind " + 4 * i, county.digest(), digestByFace(county));
        }
    }

    private static void digestOfEightQuarters() {
        GritWatch county = oneRoad(1);
        county.air(7, false);
        county.pass(4);
        county.air(-20, false);
        county.fall(2, 0, 0);
        Check.same("slippery in the eighth", county.slipperyIn(0, 24), 8);
        Check.same("digest of that", county.digest(), digestByFace(county));
        county.air(8, false);
        county.fall(0, 0, 0);
        county.pass(2);
        county.air(-20, false);
        county.fall(2, 0, 0);
        Check.same("slippery in the ninth", county.slipperyIn(0, 24), 9);
        Check.same("digest of that", county.digest(), digestByFace(county));
    }

    private static void digestOfTheRowFromTheBarn() {
        GritWatch county = new GritWatch();
        county.lorry(false);
        county.road(0, 1, 1, 0, 0, 0, false);
        county.road(1, 2, 1, 0, 0, 0, false);
        Check.same("from the barn", county.bestOrders(0, 0), 101);
        Check.same("from the node 1", county.bestOrders(0, 1), 1001);
        Check.same("digest", county.digest(), digestByFace(county));
    }

    private static void askingChangesNothing() {
        GritWatch county = wetRoad(0);
        county.lorry(true);
        county.load(0);
        county.order(0, 0);
        county.air(-7, true);
        county.fall(3, 2, 3);
        county.pass(6);
        long before = county.digest();
        county.slipperyIn(0, 24);
        county.saltFor(0, 24);
        county.bestOrders(0, 1);
        county.way(3, 0);
        county.meanWarmth();
        county.claim(0, 3);
        Check.same("digest", county.digest(), before);
        Check.same("digest again", county.digest(), before);
    }
}
