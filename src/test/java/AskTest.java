/** Promises 14 and 16 to 18: what one asks of roads, counts, ways and the mean warmth. */
public final class AskTest {
    public static void main(String[] args) {
        ofRoadRefusals();
        pointOfARoad();
        latestTreatment();
        manyCounts();
        manyRefusals();
        slipperyInThisQuarter();
        saltIsNeverLost();
        ways();
        wayRefusals();
        meanWarmth();
        Check.finish();
    }

    private static void ofRoadRefusals() {
        GritWatch county = new GritWatch();
        county.road(0, 1, 1, 0, 0, 0, false);
        Check.noPlace("road 1", county, () -> county.ofRoad(1, 0));
        Check.noPlace("road -1", county, () -> county.ofRoad(-1, 0));
        Check.noPlace("road 8", county, () -> county.ofRoad(8, 0));
        Check.badArgument("what 15", county, () -> county.ofRoad(0, 15));
        Check.badArgument("what -1", county, () -> county.ofRoad(0, -1));
        Check.noPlace("what 15 of road 1", county, () -> county.ofRoad(1, 15));
        Check.noPlace("greatest road", county, () -> county.ofRoad(Integer.MAX_VALUE, 0));
    }

    private static void pointOfARoad() {
        GritWatch county = new GritWatch();
        county.road(0, 1, 1, 2, 0, 0, false);
        county.lorry(false);
        county.load(0);
        county.rate(0, 4);
        county.order(0, 0);
        county.pass(1);
        Check.same("dry, with salt", county.ofRoad(0, 12), 0);
        int[] due = {-21, -12, -8, -6, -4, -4, -3, -3};
        county.fall(1, 0, 0);
        for (int i = 0; i < 8; i++) {
            county.pass(1);
            Check.same("salt 4, water " + (i + 1), county.ofRoad(0, 12), due[i]);
        }
        GritWatch mixed = new GritWatch();
        mixed.road(0, 1, 1, 2, 0, 0, false);
        mixed.lorry(false);
        mixed.load(0);
        mixed.rate(0, 3);
        mixed.air(-20, false);
        mixed.pass(20);
        mixed.fall(2, 3, 0);
        mixed.pass(1);
        mixed.fall(1, 0, 0);
        mixed.order(0, 0);
        mixed.pass(1);
        Check.same("ice", mixed.ofRoad(0, 9), 3);
        Check.same("snow", mixed.ofRoad(0, 10), 3);
        Check.same("by ice and snow too", mixed.ofRoad(0, 12), -3);
        mixed.fall(3, 0, 0);
        mixed.pass(1);
        Check.same("water", mixed.ofRoad(0, 8), 1);
        Check.same("by all three", mixed.ofRoad(0, 12), -2);
    }

    private static void latestTreatment() {
        GritWatch county = new GritWatch();
        county.road(0, 1, 1, 0, 0, 0, false);
        county.road(0, 1, 1, 0, 0, 0, false);
        county.lorry(true);
        county.pass(4);
        county.order(0, 1);
        county.order(0, 1);
        county.pass(7);
        Check.same("not treated", county.ofRoad(0, 14), -1);
        Check.same("treated", county.ofRoad(1, 14), 6);
    }

    private static void manyCounts() {
        GritWatch county = new GritWatch();
        county.road(0, 1, 1, 1, 0, 0, false);
        county.road(0, 1, 2, 1, 0, 0, false);
        county.lorry(false);
        county.load(0);
        county.rate(0, 5);
        county.order(0, 0);
        county.order(0, 1);
        county.deliver(20, 2);
        county.deliver(30, 40);
        county.forecast(1, 0, 0, 0, false);
        county.pass(3);
        int[] due = {2, 3, 1, 30, 75, 15, 0, 0, 0, 0, 0, 1, 1, 20, 0};
        for (int what = 0; what <= 14; what++) {
            Check.same("many " + what, county.many(what), due[what]);
        }
    }

    private static void manyRefusals() {
        GritWatch county = new GritWatch();
        Check.badArgument("what 15", county, () -> county.many(15));
        Check.badArgument("what -1", county, () -> county.many(-1));
        Check.badArgument("least what", county, () -> county.many(Integer.MIN_VALUE));
    }

    private static void slipperyInThisQuarter() {
        GritWatch county = new GritWatch();
        county.road(0, 1, 1, 0, 0, 0, false);
        county.road(0, 1, 1, 0, 0, 0, true);
        county.road(0, 1, 1, 0, 0, 0, true);
        Check.same("at 0", county.many(14), 0);
        county.air(-20, false);
        county.fall(2, 0, 0);
        county.pass(2);
        Check.same("both bridges", county.many(14), 2);
        county.pass(2);
        Check.same("all", county.many(14), 3);
        county.road(0, 1, 1, 0, 0, 0, false);
        Check.same("a new road is not", county.many(14), 3);
    }

    private static void saltIsNeverLost() {
        GritWatch county = new GritWatch();
        county.road(0, 1, 2, 0, 0, 0, false);
        county.road(0, 1, 1, 1, 5, 1, true);
        county.lorry(true);
        county.lorry(false);
        county.rate(0, 9);
        county.rate(1, 7);
        for (int round = 0; round < 15; round++) {
            county.fall(round % 4, (round + 1) % 3, (round * 7) % 4);
            county.air(round % 2 == 0 ? -4 : 6, round % 3 == 0);
            if (round % 2 == 0) {
                county.load(1);
                county.order(1, round / 2 % 2);
                county.order(1, 1 - round / 2 % 2);
            }
            if (county.ofLorry(0, 0) == 0) {
                county.load(0);
            }
            county.order(0, 0);
            county.deliver(200, 1);
            county.pass(4);
            county.rest(0);
            int salt = county.many(3) + county.many(4) + county.many(5) + county.many(6) + county.many(7);
            Check.same("salt in round " + round, salt, 100 + county.many(13));
        }
        Check.isTrue("some came to the river", county.many(6) > 0);
        Check.isTrue("some came to the fields", county.many(7) > 0);
        Check.isTrue("some was returned", county.many(8) > 0);
        Check.same("all that came", county.many(13) + county.many(8), 15 * 200);
    }

    private static void ways() {
        GritWatch county = new GritWatch();
        Check.same("without roads", county.way(0, 6), -1);
        Check.same("to itself without roads", county.way(6, 6), 0);
        county.road(0, 1, 6, 0, 0, 0, false);
        Check.same("one road", county.way(0, 1), 6);
        Check.same("back", county.way(1, 0), 6);
        county.road(2, 0, 2, 0, 0, 0, false);
        county.road(2, 1, 3, 0, 0, 0, false);
        Check.same("two shorter roads", county.way(0, 1), 5);
        Check.same("back along two", county.way(1, 0), 5);
        county.road(0, 1, 4, 0, 0, 0, false);
        Check.same("a shorter road beside", county.way(0, 1), 4);
        Check.same("none", county.way(0, 3), -1);
        Check.same("none back", county.way(3, 0), -1);
        county.road(6, 5, 6, 0, 0, 0, false);
        county.road(5, 4, 6, 0, 0, 0, false);
        county.road(4, 3, 6, 0, 0, 0, false);
        county.road(3, 1, 6, 0, 0, 0, false);
        Check.same("along five, against how they were told", county.way(6, 0), 28);
        Check.same("the other way", county.way(0, 6), 28);
        Check.same("to itself", county.way(0, 0), 0);
        GritWatch row = new GritWatch();
        for (int node = 6; node >= 1; node--) {
            row.road(node, node - 1, 5, 0, 0, 0, false);
        }
        Check.same("along all six, the last told first", row.way(0, 6), 30);
        Check.same("along all six, as they were told", row.way(6, 0), 30);
    }

    private static void wayRefusals() {
        GritWatch county = new GritWatch();
        Check.noPlace("way(7, 0)", county, () -> county.way(7, 0));
        Check.noPlace("way(-1, 0)", county, () -> county.way(-1, 0));
        Check.noPlace("way(0, 7)", county, () -> county.way(0, 7));
        Check.noPlace("way(0, -1)", county, () -> county.way(0, -1));
        Check.noPlace("way(7, 7)", county, () -> county.way(7, 7));
    }

    private static void meanWarmth() {
        GritWatch county = new GritWatch();
        Check.isTrue("without roads", county.meanWarmth() == 0.0);
        county.road(0, 1, 1, 0, 0, 0, false);
        Check.isTrue("one road", county.meanWarmth() == 3.0);
        county.road(0, 1, 1, 0, 0, 0, true);
        county.road(0, 1, 1, 0, 9, 2, true);
        county.pass(1);
        // 4, 5, and 1 of the goal 0
        Check.isTrue("not rounded", county.meanWarmth() == 10.0 / 3);
        county.air(-20, false);
        county.pass(20);
        // -16, -20 and -25
        Check.isTrue("below 0", county.meanWarmth() == -61.0 / 3);
    }
}
