/**
 * Every number of every call, promises 2 to 21: the least and the most that the document names are taken, one less and
 * one more are refused, and so are the ends of int; of two wrong numbers, and of a wrong number in a county that
 * refuses the call anyway, the exception that is named first is thrown; and a refused call changes nothing.
 */
public final class ArgumentsTest {
    private static final Class<IndexOutOfBoundsException> PLACE = IndexOutOfBoundsException.class;
    private static final Class<IllegalArgumentException> ARGUMENT = IllegalArgumentException.class;
    private static final Class<IllegalStateException> STATE = IllegalStateException.class;

    /** What a scene has: bounds of the numbers that name something in it. */
    private record Place(Refusal.Scene scene, int lastRoad, int lastLorry, int now) {
    }

    private static final Place NIGHT = new Place(Counties::night, 2, 1, 9);
    private static final Place UNDER_WAY = new Place(Counties::nightUnderWay, 2, 1, 10);
    private static final Place CROWD = new Place(Counties::crowd, 7, 2, 0);
    private static final Place LAST_QUARTER = new Place(Counties::lastQuarter, 0, 0, 199);

    private interface Made {
        void on(GritWatch county, int[] numbers);
    }

    /** A number of a call: where it is right, and what is thrown where it is not. */
    private record Range(String name, int least, int most, Class<? extends RuntimeException> due) {
    }

    private final String name;
    private final int[] right;
    private final Made made;
    private final Range[] numbers;

    private ArgumentsTest(String name, int[] right, Made made, Range... numbers) {
        this.name = name;
        this.right = right;
        this.made = made;
        this.numbers = numbers;
    }

    public static void main(String[] args) {
        scenesAreAsTheyShouldBe();
        road();
        air();
        fall();
        forecast();
        pass();
        lorry();
        rate();
        order();
        load();
        rest();
        deliver();
        claim();
        ofRoad();
        ofLorry();
        many();
        way();
        slipperyIn();
        saltFor();
        bestOrders();
        Check.finish();
    }

    private static int[] right(int... numbers) {
        return numbers;
    }

    private static Range node(String name) {
        return new Range(name, 0, 6, PLACE);
    }

    private static Range road(Place at) {
        return new Range("road", 0, at.lastRoad, PLACE);
    }

    private static Range lorry(Place at) {
        return new Range("lorry", 0, at.lastLorry, PLACE);
    }

    private static Range number(String name, int least, int most) {
        return new Range(name, least, most, ARGUMENT);
    }

    // ---- what is tried with each call

    private String with(int... index) {
        StringBuilder text = new StringBuilder(name).append(" with ");
        for (int i : index) {
            text.append(numbers[i].name).append(' ');
        }
        return text.toString();
    }

    private int[] rightBut(int index, int number) {
        int[] changed = right.clone();
        changed[index] = number;
        return changed;
    }

    private ArgumentsTest isTaken(Place at) {
        Refusal.none(name, at.scene, county -> made.on(county, right));
        for (int i = 0; i < numbers.length; i++) {
            int[] least = rightBut(i, numbers[i].least);
            int[] most = rightBut(i, numbers[i].most);
            Refusal.none(with(i) + least[i], at.scene, county -> made.on(county, least));
            Refusal.none(with(i) + most[i], at.scene, county -> made.on(county, most));
        }
        return this;
    }

    /** Also in a county that refuses the call anyway: there the wrong number is named first. */
    private ArgumentsTest refusesWrongNumbers(Place at) {
        for (int i = 0; i < numbers.length; i++) {
            int[] wrong = {numbers[i].least - 1, numbers[i].most + 1, Integer.MIN_VALUE, Integer.MAX_VALUE};
            for (int number : wrong) {
                int[] one = rightBut(i, number);
                Refusal.of(with(i) + number, numbers[i].due, at.scene, county -> made.on(county, one));
            }
            for (int j = i + 1; j < numbers.length; j++) {
                refusesBoth(at, i, j);
            }
        }
        return this;
    }

    private void refusesBoth(Place at, int i, int j) {
        int[] below = rightBut(i, numbers[i].least - 1);
        int[] above = rightBut(i, numbers[i].most + 1);
        below[j] = numbers[j].most + 1;
        above[j] = numbers[j].least - 1;
        Class<? extends RuntimeException> due = numbers[i].due == PLACE || numbers[j].due == PLACE ? PLACE : ARGUMENT;
        Refusal.of(with(i, j) + "below and above", due, at.scene, county -> made.on(county, below));
        Refusal.of(with(i, j) + "above and below", due, at.scene, county -> made.on(county, above));
    }

    private ArgumentsTest refusesByState(Place at) {
        Refusal.of(name, STATE, at.scene, county -> made.on(county, right));
        return this;
    }

    // ---- the calls

    private static void scenesAreAsTheyShouldBe() {
        for (Place at : new Place[] {NIGHT, UNDER_WAY, CROWD, LAST_QUARTER}) {
            GritWatch county = at.scene.make();
            Check.same("last road", county.many(0) - 1, at.lastRoad);
            Check.same("last lorry", county.many(2) - 1, at.lastLorry);
            Check.same("now", county.many(1), at.now);
        }
        Check.same("slippery roads of the night", Counties.night().many(14), 3);
        Check.same("first lorry under way", Counties.nightUnderWay().ofLorry(0, 0), 1);
        Check.same("second lorry under way", Counties.nightUnderWay().ofLorry(1, 1), 2);
        Check.isTrue("a slippery last quarter", Counties.lastQuarter().many(14) > 0);
    }

    private static void road() {
        Made made = (county, n) -> county.road(n[0], n[1], n[2], n[3], n[4], n[5], true);
        ArgumentsTest road = new ArgumentsTest("road", right(4, 5, 2, 1, 4, 1), made, node("one"), node("other"),
            number("length", 1, 6), number("rank", 0, 2), number("height", 0, 9), number("shade", 0, 2));
        road.isTaken(NIGHT).refusesWrongNumbers(NIGHT);
        road.refusesByState(CROWD).refusesWrongNumbers(CROWD);
    }

    private static void air() {
        Made made = (county, n) -> county.air(n[0], true);
        new ArgumentsTest("air", right(3), made, number("air", -20, 20)).isTaken(NIGHT).refusesWrongNumbers(NIGHT);
    }

    private static void fall() {
        Made made = (county, n) -> county.fall(n[0], n[1], n[2]);
        new ArgumentsTest("fall", right(1, 2, 2), made, number("rain", 0, 3), number("flakes", 0, 3),
            number("wind", 0, 3)).isTaken(NIGHT).refusesWrongNumbers(NIGHT);
    }

    private static void forecast() {
        Made made = (county, n) -> county.forecast(n[0], n[1], n[2], n[3], true);
        ArgumentsTest forecast = new ArgumentsTest("forecast", right(5, -3, 0, 7), made, number("later", 1, 48),
            number("first", -20, 20), number("second", -20, 20), number("third", -20, 20));
        forecast.isTaken(NIGHT).refusesWrongNumbers(NIGHT);
        forecast.isTaken(LAST_QUARTER);
        forecast.refusesByState(CROWD).refusesWrongNumbers(CROWD);
    }

    private static void pass() {
        Made made = (county, n) -> county.pass(n[0]);
        ArgumentsTest pass = new ArgumentsTest("pass", right(2), made, number("quarters", 1, 20));
        pass.isTaken(NIGHT).refusesWrongNumbers(NIGHT);
        pass.refusesByState(LAST_QUARTER).refusesWrongNumbers(LAST_QUARTER);
        Place late = new Place(() -> Counties.nightAt(185), 2, 1, 185);
        new ArgumentsTest("pass beyond 199", right(15), made).refusesByState(late);
    }

    private static void lorry() {
        Made made = (county, n) -> county.lorry(true);
        new ArgumentsTest("lorry", right(), made).isTaken(NIGHT).refusesByState(CROWD);
    }

    private static void rate() {
        Made made = (county, n) -> county.rate(n[0], n[1]);
        for (Place at : new Place[] {NIGHT, CROWD}) {
            new ArgumentsTest("rate", right(0, 4), made, lorry(at), number("rate", 0, 9))
                .isTaken(at).refusesWrongNumbers(at);
        }
    }

    private static void order() {
        Made made = (county, n) -> county.order(n[0], n[1]);
        new ArgumentsTest("order", right(0, 0), made, lorry(NIGHT), road(NIGHT))
            .isTaken(NIGHT).refusesWrongNumbers(NIGHT);
        new ArgumentsTest("order", right(2, 7), made, lorry(CROWD), road(CROWD))
            .refusesByState(CROWD).refusesWrongNumbers(CROWD);
    }

    private static void load() {
        Made made = (county, n) -> county.load(n[0]);
        for (Place at : new Place[] {NIGHT, CROWD}) {
            new ArgumentsTest("load", right(0), made, lorry(at)).isTaken(at).refusesWrongNumbers(at);
        }
        for (int lorry = 0; lorry <= 1; lorry++) {
            new ArgumentsTest("load of " + lorry, right(lorry), made, lorry(UNDER_WAY))
                .refusesByState(UNDER_WAY).refusesWrongNumbers(UNDER_WAY);
        }
    }

    private static void rest() {
        Made made = (county, n) -> county.rest(n[0]);
        for (Place at : new Place[] {NIGHT, CROWD}) {
            new ArgumentsTest("rest", right(0), made, lorry(at)).isTaken(at).refusesWrongNumbers(at);
        }
        Refusal.none("rest away from the barn", UNDER_WAY.scene, county -> county.rest(0));
        new ArgumentsTest("rest on a road", right(1), made, lorry(UNDER_WAY))
            .refusesByState(UNDER_WAY).refusesWrongNumbers(UNDER_WAY);
    }

    private static void deliver() {
        Made made = (county, n) -> county.deliver(n[0], n[1]);
        ArgumentsTest deliver = new ArgumentsTest("deliver", right(9, 3), made, number("amount", 1, 500),
            number("later", 1, 96));
        deliver.isTaken(NIGHT).refusesWrongNumbers(NIGHT);
        deliver.isTaken(LAST_QUARTER);
        deliver.refusesByState(CROWD).refusesWrongNumbers(CROWD);
    }

    private static void claim() {
        Made made = (county, n) -> county.claim(n[0], n[1]);
        for (Place at : new Place[] {NIGHT, LAST_QUARTER}) {
            new ArgumentsTest("claim", right(0, 3), made, road(at), number("quarter", 1, at.now))
                .isTaken(at).refusesWrongNumbers(at);
        }
        // NOW is 0: no quarter is right, but a road that there is not is still named first
        new ArgumentsTest("claim at 0", right(0, 1), made, road(CROWD), number("quarter", 1, 0))
            .refusesWrongNumbersOfAny(CROWD);
    }

    private void refusesWrongNumbersOfAny(Place at) {
        Refusal.of(name + " of a quarter 1", ARGUMENT, at.scene, county -> made.on(county, right));
        Refusal.of(name + " of a quarter 0", ARGUMENT, at.scene, county -> made.on(county, rightBut(1, 0)));
        refusesBoth(at, 0, 1);
    }

    private static void ofRoad() {
        Made made = (county, n) -> county.ofRoad(n[0], n[1]);
        for (Place at : new Place[] {NIGHT, CROWD}) {
            new ArgumentsTest("ofRoad", right(0, 7), made, road(at), number("what", 0, 14))
                .isTaken(at).refusesWrongNumbers(at);
        }
    }

    private static void ofLorry() {
        Made made = (county, n) -> county.ofLorry(n[0], n[1]);
        for (Place at : new Place[] {NIGHT, CROWD}) {
            new ArgumentsTest("ofLorry", right(0, 3), made, lorry(at), number("what", 0, 8))
                .isTaken(at).refusesWrongNumbers(at);
        }
    }

    private static void many() {
        Made made = (county, n) -> county.many(n[0]);
        new ArgumentsTest("many", right(5), made, number("what", 0, 14)).isTaken(NIGHT).refusesWrongNumbers(NIGHT);
    }

    private static void way() {
        Made made = (county, n) -> county.way(n[0], n[1]);
        new ArgumentsTest("way", right(1, 2), made, node("one"), node("other"))
            .isTaken(NIGHT).refusesWrongNumbers(NIGHT);
    }

    private static void slipperyIn() {
        Made made = (county, n) -> county.slipperyIn(n[0], n[1]);
        for (Place at : new Place[] {NIGHT, CROWD, LAST_QUARTER}) {
            new ArgumentsTest("slipperyIn", right(0, 5), made, road(at), number("quarters", 1, 24))
                .isTaken(at).refusesWrongNumbers(at);
        }
    }

    private static void saltFor() {
        Made made = (county, n) -> county.saltFor(n[0], n[1]);
        for (Place at : new Place[] {NIGHT, CROWD, LAST_QUARTER}) {
            new ArgumentsTest("saltFor", right(0, 5), made, road(at), number("quarters", 1, 24))
                .isTaken(at).refusesWrongNumbers(at);
        }
    }

    private static void bestOrders() {
        Made made = (county, n) -> county.bestOrders(n[0], n[1]);
        for (Place at : new Place[] {NIGHT, CROWD}) {
            new ArgumentsTest("bestOrders", right(0, 2), made, lorry(at), node("from"))
                .isTaken(at).refusesWrongNumbers(at);
        }
    }
}
