import java.util.function.Supplier;

/** Each refusal of each call: its number, that it alone is counted, that nothing else changes, and which is first where two fit. */
public final class RefusalsTest extends Due {
    private static final Supplier<DraughtsTake> EMPTY = DraughtsTake::new;
    private static final Supplier<DraughtsTake> HOUSE = RefusalsTest::house;
    private static final Supplier<DraughtsTake> FULL = RefusalsTest::full;

    /**
     * Airs 0 (on 7) and 1 (on 28), sitters 0 (on 14) and 1 (on 25), sitter 2 (on 35) OFF; 0 and 1 are SHUT; peg 0 has a row of 4 for
     * any (a cape, a fur, two empty places), peg 1 of 2 for capes, peg 2 none; three changes can be taken back; the ROW has 14.
     */
    private static DraughtsTake house() {
        DraughtsTake x = told("a13123;a62232;p140;p254;p352;d00;d01;w3500;lt17s01;t01;");
        x.pegs(0, 0, 4);
        x.hangs(0, 0, 1, 4);
        x.hangs(0, 1, 2, 3);
        x.pegs(1, 1, 2);
        x.image();
        x.wraps(0, 2);
        x.blows(0, 1);
        x.warms(5, -7);
        x.row(14);
        feed(x, "w0077");
        return x;
    }

    /** 5 airs, 6 sitters, 6 steps, TURN 999, 8 to take back, 12 in the ROW, 96 letters. */
    private static DraughtsTake full() {
        DraughtsTake x = new DraughtsTake();
        for (int k = 0; k < 5; k++) {
            x.comes(k, k, 2 * k);
        }
        for (int k = 0; k < 6; k++) {
            x.sitsDown(k < 3 ? 13 + k : 30 + k);
            x.step(k, 20);
        }
        x.wraps(0, 9);
        goOn(x, 999);
        x.image();
        for (int k = 0; k < 12; k++) {
            x.row(k);
        }
        for (int k = 0; k < 96; k++) {
            x.feed(k % 2 == 0 ? 'l' : ';');
        }
        return x;
    }

    private static void whatTheHousesAre() {
        part("the houses");
        DraughtsTake x = house();
        int[] counts = {2, 3, 1, 0, 0b011, 2, 2, 5, 1, 3};
        DraughtsTake y = full();
        int[] fulls = {5, 6, 999, y.count(3), y.count(4), 6, 0, 96, 12, 8};
        for (int what = 0; what < 10; what++) {
            due("count " + what, x.count(what), counts[what]);
            due("count " + what + " of all that is full", y.count(what), fulls[what]);
        }
        due("air 0", x.air(0, 2), 7);
        due("air 1", x.air(1, 2), 28);
        due("somebody is leapt over", y.count(3) > 0 ? 1 : 0, 1);
        due("somebody is ON", y.count(4) > 0 ? 1 : 0, 1);
    }

    private static void lettersAndLooks() {
        part("promise 2");
        yes(HOUSE, x -> x.feed(0), x -> x.feed(255));
        no(HOUSE, -4, x -> x.feed(-1), x -> x.feed(MIN));
        no(HOUSE, -6, x -> x.feed(256), x -> x.feed(MAX));
        no(FULL, -6, x -> x.feed(0), x -> x.feed(255), x -> x.feed(256));
        no(FULL, -4, x -> x.feed(-1));
        part("promise 4");
        yes(HOUSE, x -> x.air(0, 0), x -> x.air(1, 5));
        yes(FULL, x -> x.air(4, 5));
        no(EMPTY, -1, x -> x.air(0, 0));
        no(HOUSE, -1, x -> x.air(-1, 0), x -> x.air(2, 0), x -> x.air(MIN, 0), x -> x.air(MAX, 0));
        no(FULL, -1, x -> x.air(5, 0));
        no(HOUSE, -2, x -> x.air(0, -1), x -> x.air(0, 6), x -> x.air(1, MIN), x -> x.air(1, MAX));
        no(HOUSE, -1, x -> x.air(-1, -1), x -> x.air(2, 6));
        part("promise 5");
        yes(HOUSE, x -> x.sitter(0, 0), x -> x.sitter(2, 2));
        yes(FULL, x -> x.sitter(5, 2));
        no(EMPTY, -1, x -> x.sitter(0, 0));
        no(HOUSE, -1, x -> x.sitter(-1, 0), x -> x.sitter(3, 0), x -> x.sitter(MIN, 0), x -> x.sitter(MAX, 0));
        no(FULL, -1, x -> x.sitter(6, 0));
        no(HOUSE, -2, x -> x.sitter(0, -1), x -> x.sitter(0, 3), x -> x.sitter(2, MIN), x -> x.sitter(2, MAX));
        no(HOUSE, -1, x -> x.sitter(-1, -1), x -> x.sitter(3, 3));
        part("promise 6");
        yes(HOUSE, x -> x.cell(0, 0), x -> x.cell(35, 4));
        no(HOUSE, -1, x -> x.cell(-1, 0), x -> x.cell(36, 0), x -> x.cell(MIN, 0), x -> x.cell(MAX, 0));
        no(HOUSE, -2, x -> x.cell(0, -1), x -> x.cell(0, 5), x -> x.cell(35, MIN), x -> x.cell(35, MAX));
        no(HOUSE, -1, x -> x.cell(-1, -1), x -> x.cell(36, 5));
        part("promise 7");
        only(HOUSE, 0, x -> x.warm(-1), x -> x.warm(36), x -> x.warm(MIN), x -> x.warm(MAX));
        only(EMPTY, bits(16f), x -> x.warm(0), x -> x.warm(35));
    }

    private static void whoComes() {
        part("promise 8");
        yes(HOUSE, x -> x.comes(0, 0, 35), x -> x.comes(7, 9, 2));
        yes(EMPTY, x -> x.comes(0, 0, 0), x -> x.comes(0, 0, 35));
        no(HOUSE, -2, x -> x.comes(-1, 0, 2), x -> x.comes(8, 0, 2), x -> x.comes(MIN, 0, 2), x -> x.comes(MAX, 0, 2));
        no(HOUSE, -4, x -> x.comes(0, -1, 2), x -> x.comes(0, MIN, 2));
        no(HOUSE, -6, x -> x.comes(0, 10, 2), x -> x.comes(0, MAX, 2));
        no(FULL, -6, x -> x.comes(0, 0, 20), x -> x.comes(0, 0, 21));
        no(HOUSE, -1, x -> x.comes(0, 0, -1), x -> x.comes(0, 0, 36), x -> x.comes(0, 0, MIN), x -> x.comes(0, 0, MAX));
        no(HOUSE, -3, x -> x.comes(0, 0, 7), x -> x.comes(0, 0, 14), x -> x.comes(0, 0, 0));
        no(HOUSE, -2, x -> x.comes(8, -1, 2), x -> x.comes(8, 10, 2), x -> x.comes(-1, 0, 36), x -> x.comes(8, 0, 7));
        no(FULL, -2, x -> x.comes(8, 0, 20));
        no(FULL, -4, x -> x.comes(0, -1, 20));
        no(HOUSE, -4, x -> x.comes(0, -1, 36), x -> x.comes(0, -1, 7));
        no(HOUSE, -6, x -> x.comes(0, 10, 36), x -> x.comes(0, 10, 7));
        no(FULL, -6, x -> x.comes(0, 0, 36), x -> x.comes(0, 0, x.air(0, 2)));
        part("promise 9");
        yes(HOUSE, x -> x.sitsDown(2), x -> x.sitsDown(35));
        yes(EMPTY, x -> x.sitsDown(0), x -> x.sitsDown(35));
        no(HOUSE, -1, x -> x.sitsDown(-1), x -> x.sitsDown(36), x -> x.sitsDown(MIN), x -> x.sitsDown(MAX));
        no(FULL, -6, x -> x.sitsDown(20), x -> x.sitsDown(21));
        no(HOUSE, -3, x -> x.sitsDown(7), x -> x.sitsDown(14), x -> x.sitsDown(0));
        no(FULL, -1, x -> x.sitsDown(-1), x -> x.sitsDown(36));
        no(FULL, -6, x -> x.sitsDown(x.air(0, 2)));
    }

    private static void whatIsChanged() {
        part("promise 10");
        yes(HOUSE, x -> x.shuts(0), x -> x.shuts(2), x -> x.shuts(35));
        no(HOUSE, -1, x -> x.shuts(-1), x -> x.shuts(36), x -> x.shuts(MIN), x -> x.shuts(MAX));
        no(HOUSE, -3, x -> x.shuts(7), x -> x.shuts(14), x -> x.shuts(25), x -> x.shuts(28));
        part("promise 11");
        yes(HOUSE, x -> x.warms(0, -100), x -> x.warms(35, 100), x -> x.warms(7, 0));
        no(HOUSE, -1, x -> x.warms(-1, 0), x -> x.warms(36, 0), x -> x.warms(MIN, 0), x -> x.warms(MAX, 0));
        no(HOUSE, -4, x -> x.warms(0, -101), x -> x.warms(35, MIN));
        no(HOUSE, -6, x -> x.warms(0, 101), x -> x.warms(35, MAX));
        no(HOUSE, -1, x -> x.warms(36, -101), x -> x.warms(-1, 101));
        part("promise 12");
        yes(HOUSE, x -> x.sits(0, 2), x -> x.sits(2, 35), x -> x.sits(2, 2), x -> x.sits(0, 35));
        no(HOUSE, -1, x -> x.sits(-1, 2), x -> x.sits(3, 2), x -> x.sits(MIN, 2), x -> x.sits(MAX, 2));
        no(HOUSE, -1, x -> x.sits(0, -1), x -> x.sits(0, 36), x -> x.sits(0, MIN), x -> x.sits(0, MAX));
        no(HOUSE, -3, x -> x.sits(0, 14), x -> x.sits(0, 25), x -> x.sits(0, 7), x -> x.sits(0, 0), x -> x.sits(2, 14));
        no(HOUSE, -1, x -> x.sits(3, 36), x -> x.sits(3, 14));
        part("promise 13");
        yes(HOUSE, x -> x.blows(0, 0), x -> x.blows(1, 3));
        no(HOUSE, -1, x -> x.blows(-1, 0), x -> x.blows(2, 0), x -> x.blows(MIN, 0), x -> x.blows(MAX, 0));
        no(HOUSE, -2, x -> x.blows(0, -1), x -> x.blows(0, 4), x -> x.blows(1, MIN), x -> x.blows(1, MAX));
        no(HOUSE, -1, x -> x.blows(2, 4), x -> x.blows(-1, -1));
        part("promise 14");
        yes(HOUSE, x -> x.wraps(0, 0), x -> x.wraps(2, 9));
        no(HOUSE, -1, x -> x.wraps(-1, 0), x -> x.wraps(3, 0), x -> x.wraps(MIN, 0), x -> x.wraps(MAX, 0));
        no(HOUSE, -4, x -> x.wraps(0, -1), x -> x.wraps(2, MIN));
        no(HOUSE, -6, x -> x.wraps(0, 10), x -> x.wraps(2, MAX));
        no(HOUSE, -1, x -> x.wraps(3, -1), x -> x.wraps(3, 10));
        part("promise 15");
        yes(HOUSE, x -> x.step(0, 0), x -> x.step(6, 99));
        no(HOUSE, -2, x -> x.step(-1, 0), x -> x.step(7, 0), x -> x.step(MIN, 0), x -> x.step(MAX, 0));
        no(HOUSE, -4, x -> x.step(0, -1), x -> x.step(6, MIN));
        no(HOUSE, -6, x -> x.step(0, 100), x -> x.step(6, MAX));
        no(FULL, -6, x -> x.step(0, 0), x -> x.step(6, 99), x -> x.step(0, 100));
        no(HOUSE, -2, x -> x.step(7, -1), x -> x.step(-1, 100));
        no(FULL, -2, x -> x.step(7, 0));
        no(FULL, -4, x -> x.step(0, -1));
    }

    private static void turnsAndBack() {
        part("promise 17");
        yes(HOUSE, x -> x.turns(1), x -> x.turns(60));
        no(HOUSE, -4, x -> x.turns(0), x -> x.turns(-1), x -> x.turns(MIN));
        no(HOUSE, -6, x -> x.turns(61), x -> x.turns(MAX));
        no(FULL, -6, x -> x.turns(1), x -> x.turns(60), x -> x.turns(61), x -> x.turns(MAX));
        no(FULL, -4, x -> x.turns(0), x -> x.turns(MIN));
        Supplier<DraughtsTake> turn998 = () -> {
            DraughtsTake x = told("a00210;p140;");
            goOn(x, 998);
            return x;
        };
        yes(turn998, x -> x.turns(1));
        no(turn998, -6, x -> x.turns(2), x -> x.turns(60));
        part("promise 18");
        yes(HOUSE, DraughtsTake::back);
        yes(FULL, DraughtsTake::back);
        no(EMPTY, -3, DraughtsTake::back);
        no(() -> told("a00210;p140;"), -3, DraughtsTake::back);
    }

    private static void inMind() {
        part("promise 19");
        yes(HOUSE, x -> x.airThen(0, 0), x -> x.airThen(1, 60));
        yes(FULL, x -> x.airThen(4, 60));
        no(HOUSE, -1, x -> x.airThen(-1, 0), x -> x.airThen(2, 0), x -> x.airThen(MIN, 0), x -> x.airThen(MAX, 0));
        no(HOUSE, -4, x -> x.airThen(0, -1), x -> x.airThen(0, MIN));
        no(HOUSE, -6, x -> x.airThen(0, 61), x -> x.airThen(0, MAX));
        no(HOUSE, -1, x -> x.airThen(2, -1), x -> x.airThen(-1, 61));
        part("promise 20");
        yes(HOUSE, x -> x.then(0, 0), x -> x.then(60, 2));
        yes(FULL, x -> x.then(60, 1));
        no(HOUSE, -4, x -> x.then(-1, 0), x -> x.then(MIN, 0));
        no(HOUSE, -6, x -> x.then(61, 0), x -> x.then(MAX, 0));
        no(HOUSE, -2, x -> x.then(0, -1), x -> x.then(0, 3), x -> x.then(60, MIN), x -> x.then(60, MAX));
        no(HOUSE, -4, x -> x.then(-1, 3), x -> x.then(-1, -1));
        no(HOUSE, -6, x -> x.then(61, 3), x -> x.then(61, -1));
        part("promise 21");
        only(HOUSE, 0, x -> x.warmThen(-1, 0), x -> x.warmThen(36, 0), x -> x.warmThen(MIN, 60), x -> x.warmThen(MAX, 60));
        only(HOUSE, 0, x -> x.warmThen(0, -1), x -> x.warmThen(0, 61), x -> x.warmThen(0, MIN), x -> x.warmThen(0, MAX));
        only(EMPTY, bits(16f), x -> x.warmThen(0, 0), x -> x.warmThen(35, 60));
        part("promise 22");
        yes(HOUSE, x -> x.when(-1), x -> x.when(0), x -> x.when(2));
        only(EMPTY, -9, x -> x.when(-1));
        no(EMPTY, -1, x -> x.when(0));
        no(HOUSE, -1, x -> x.when(-2), x -> x.when(3), x -> x.when(MIN), x -> x.when(MAX));
        part("promise 23");
        yes(HOUSE, x -> x.sit(0, 0), x -> x.sit(1, 1));
        no(HOUSE, -1, x -> x.sit(-1, 0), x -> x.sit(3, 0), x -> x.sit(MIN, 0), x -> x.sit(MAX, 0));
        no(HOUSE, -2, x -> x.sit(0, -1), x -> x.sit(0, 2), x -> x.sit(0, MIN), x -> x.sit(0, MAX));
        no(HOUSE, -3, x -> x.sit(2, 0), x -> x.sit(2, 1));
        no(HOUSE, -1, x -> x.sit(3, 2));
        no(HOUSE, -2, x -> x.sit(2, 2));
    }

    private static void whatToShut() {
        part("promise 24");
        yes(HOUSE, x -> x.shut(0, 0), x -> x.shut(1, 30));
        no(HOUSE, -1, x -> x.shut(-1, 0), x -> x.shut(3, 0), x -> x.shut(MIN, 0), x -> x.shut(MAX, 0));
        no(HOUSE, -4, x -> x.shut(0, -1), x -> x.shut(0, MIN));
        no(HOUSE, -6, x -> x.shut(0, 31), x -> x.shut(0, MAX));
        no(HOUSE, -3, x -> x.shut(2, 0), x -> x.shut(2, 30));
        no(HOUSE, -1, x -> x.shut(3, -1), x -> x.shut(3, 31));
        no(HOUSE, -4, x -> x.shut(2, -1));
        no(HOUSE, -6, x -> x.shut(2, 31));
        part("promise 25");
        yes(HOUSE, x -> x.most(0), x -> x.most(30));
        only(EMPTY, -9, x -> x.most(0), x -> x.most(30));
        no(HOUSE, -4, x -> x.most(-1), x -> x.most(MIN));
        no(HOUSE, -6, x -> x.most(31), x -> x.most(MAX));
        part("promise 26");
        yes(HOUSE, x -> x.leapt(1, 0), x -> x.leapt(60, 1));
        only(EMPTY, 0, x -> x.leapt(1, 0), x -> x.leapt(60, 1));
        no(HOUSE, -4, x -> x.leapt(0, 0), x -> x.leapt(-1, 0), x -> x.leapt(MIN, 0));
        no(HOUSE, -6, x -> x.leapt(61, 0), x -> x.leapt(MAX, 0));
        no(HOUSE, -2, x -> x.leapt(1, -1), x -> x.leapt(1, 2), x -> x.leapt(60, MIN), x -> x.leapt(60, MAX));
        no(HOUSE, -4, x -> x.leapt(0, 2));
        no(HOUSE, -6, x -> x.leapt(61, 2));
    }

    private static void whatIsGuessed() {
        part("promise 27");
        yes(HOUSE, x -> x.whatKind(0, 0), x -> x.whatKind(1, 1));
        no(HOUSE, -1, x -> x.whatKind(-1, 0), x -> x.whatKind(2, 0), x -> x.whatKind(MIN, 0), x -> x.whatKind(MAX, 0));
        no(HOUSE, -2, x -> x.whatKind(0, -1), x -> x.whatKind(0, 2), x -> x.whatKind(0, MIN), x -> x.whatKind(0, MAX));
        no(HOUSE, -1, x -> x.whatKind(2, 2));
        part("promise 28");
        yes(HOUSE, x -> x.howCold(0, 0, -100), x -> x.howCold(1, 99, 100));
        no(HOUSE, -1, x -> x.howCold(-1, 0, 0), x -> x.howCold(2, 0, 0), x -> x.howCold(MIN, 0, 0), x -> x.howCold(MAX, 0, 0));
        no(HOUSE, -4, x -> x.howCold(0, -1, 0), x -> x.howCold(0, MIN, 0), x -> x.howCold(0, 0, -101), x -> x.howCold(0, 0, MIN));
        no(HOUSE, -6, x -> x.howCold(0, 100, 0), x -> x.howCold(0, MAX, 0), x -> x.howCold(0, 0, 101), x -> x.howCold(0, 0, MAX));
        no(HOUSE, -1, x -> x.howCold(2, -1, 0), x -> x.howCold(2, 0, -101), x -> x.howCold(2, 100, 0), x -> x.howCold(2, 0, 101));
        no(HOUSE, -4, x -> x.howCold(0, -1, 101), x -> x.howCold(0, 100, -101), x -> x.howCold(0, -1, -101));
        part("promise 29");
        yes(HOUSE, x -> x.two(0, 1, 1), x -> x.two(1, 0, 30));
        no(HOUSE, -1, x -> x.two(-1, 0, 1), x -> x.two(3, 0, 1), x -> x.two(0, -1, 1), x -> x.two(0, 3, 1));
        no(HOUSE, -1, x -> x.two(MIN, 0, 1), x -> x.two(0, MAX, 1), x -> x.two(0, 0, 1), x -> x.two(1, 1, 30));
        no(HOUSE, -4, x -> x.two(0, 1, 0), x -> x.two(0, 1, -1), x -> x.two(0, 1, MIN));
        no(HOUSE, -6, x -> x.two(0, 1, 31), x -> x.two(0, 1, MAX));
        no(HOUSE, -3, x -> x.two(0, 2, 1), x -> x.two(2, 1, 30));
        no(HOUSE, -1, x -> x.two(0, 0, 0), x -> x.two(3, 0, 31), x -> x.two(0, 3, 0), x -> x.two(2, 2, 1), x -> x.two(2, 3, 1));
        no(HOUSE, -4, x -> x.two(0, 2, 0), x -> x.two(2, 0, 0));
        no(HOUSE, -6, x -> x.two(0, 2, 31), x -> x.two(2, 0, 31));
    }

    private static void odds() {
        part("promise 30");
        yes(HOUSE, x -> x.still(0, 0, 2, 0), x -> x.still(2, 7, 20, 1));
        no(HOUSE, -1, x -> x.still(-1, 0, 2, 0), x -> x.still(3, 0, 2, 0), x -> x.still(MIN, 0, 2, 0), x -> x.still(MAX, 0, 2, 0));
        no(HOUSE, -4, x -> x.still(0, -1, 2, 0), x -> x.still(0, MIN, 2, 0), x -> x.still(0, 0, 1, 0), x -> x.still(0, 0, MIN, 0));
        no(HOUSE, -4, x -> x.still(0, 0, 0, 0), x -> x.still(0, 0, -1, 0));
        no(HOUSE, -6, x -> x.still(0, 8, 2, 0), x -> x.still(0, MAX, 2, 0), x -> x.still(0, 0, 21, 0), x -> x.still(0, 0, MAX, 0));
        no(HOUSE, -2, x -> x.still(0, 0, 2, -1), x -> x.still(0, 7, 20, 2), x -> x.still(0, 0, 2, MIN), x -> x.still(0, 0, 2, MAX));
        no(HOUSE, -1, x -> x.still(3, -1, 2, 0), x -> x.still(3, 0, 1, 0), x -> x.still(3, 8, 2, 0), x -> x.still(3, 0, 21, 0));
        no(HOUSE, -1, x -> x.still(3, 0, 2, 2));
        no(HOUSE, -4, x -> x.still(0, -1, 21, 0), x -> x.still(0, 8, 1, 0), x -> x.still(0, -1, 2, 2), x -> x.still(0, 0, 1, 2));
        no(HOUSE, -6, x -> x.still(0, 8, 2, 2), x -> x.still(0, 0, 21, 2));
        due("nobody", house().still(3, 0, 2, 0), 4000000000000000001L);
        due("other", house().still(0, 0, 2, 2), 4000000000000000002L);
        due("below", house().still(0, -1, 2, 0), 4000000000000000004L);
        due("room", house().still(0, 8, 2, 0), 4000000000000000006L);
    }

    private static void sumsAndKinds() {
        part("promise 31");
        yes(HOUSE, x -> x.coldest(-1), x -> x.coldest(0), x -> x.coldest(35));
        no(HOUSE, -1, x -> x.coldest(-2), x -> x.coldest(36), x -> x.coldest(MIN), x -> x.coldest(MAX));
        part("promise 32");
        yes(HOUSE, x -> x.sum(0), x -> x.sum(1));
        no(HOUSE, -2, x -> x.sum(-1), x -> x.sum(2), x -> x.sum(MIN), x -> x.sum(MAX));
        part("promise 33");
        yes(HOUSE, x -> x.nearest(0, 0), x -> x.nearest(2, 1));
        only(() -> told("p140;"), -9, x -> x.nearest(0, 0), x -> x.nearest(0, 1));
        no(HOUSE, -1, x -> x.nearest(-1, 0), x -> x.nearest(3, 0), x -> x.nearest(MIN, 0), x -> x.nearest(MAX, 0));
        no(HOUSE, -2, x -> x.nearest(0, -1), x -> x.nearest(0, 2), x -> x.nearest(0, MIN), x -> x.nearest(0, MAX));
        no(() -> told("p140;"), -2, x -> x.nearest(0, -1), x -> x.nearest(0, 2));
        no(HOUSE, -1, x -> x.nearest(3, 2));
        part("promise 34");
        yes(HOUSE, x -> x.kinds(0), x -> x.kinds(7));
        no(HOUSE, -2, x -> x.kinds(-1), x -> x.kinds(8), x -> x.kinds(MIN), x -> x.kinds(MAX));
    }

    private static void rowsOfPegs() {
        part("promise 35");
        yes(HOUSE, x -> x.pegs(0, 0, 0), x -> x.pegs(2, 2, 12));
        no(HOUSE, -1, x -> x.pegs(-1, 0, 1), x -> x.pegs(3, 0, 1), x -> x.pegs(MIN, 0, 1), x -> x.pegs(MAX, 0, 1));
        no(HOUSE, -2, x -> x.pegs(0, -1, 1), x -> x.pegs(0, 3, 1), x -> x.pegs(0, MIN, 1), x -> x.pegs(0, MAX, 1));
        no(HOUSE, -6, x -> x.pegs(0, 0, 13), x -> x.pegs(2, 0, MAX));
        no(HOUSE, -14, x -> x.pegs(0, 0, -1), x -> x.pegs(2, 0, MIN));
        no(HOUSE, -1, x -> x.pegs(3, 3, 1), x -> x.pegs(3, 0, 13), x -> x.pegs(-1, 0, -1));
        no(HOUSE, -2, x -> x.pegs(0, 3, 13), x -> x.pegs(0, 3, -1));
        part("promise 36");
        yes(HOUSE, x -> x.hangs(0, 0, 1, 0), x -> x.hangs(0, 3, 2, 9));
        no(HOUSE, -1, x -> x.hangs(-1, 0, 1, 0), x -> x.hangs(3, 0, 1, 0), x -> x.hangs(MIN, 0, 1, 0), x -> x.hangs(MAX, 0, 1, 0));
        no(HOUSE, -2, x -> x.hangs(0, 0, 0, 0), x -> x.hangs(0, 0, 3, 0), x -> x.hangs(0, 0, -1, 0), x -> x.hangs(0, 0, MAX, 0));
        no(HOUSE, -4, x -> x.hangs(0, 0, 1, -1), x -> x.hangs(0, 0, 1, MIN));
        no(HOUSE, -6, x -> x.hangs(0, 0, 1, 10), x -> x.hangs(0, 0, 1, MAX));
        no(HOUSE, -11, x -> x.hangs(2, 0, 1, 0));
        no(HOUSE, -13, x -> x.hangs(0, -1, 1, 0), x -> x.hangs(0, 4, 1, 0), x -> x.hangs(0, MIN, 1, 0), x -> x.hangs(0, MAX, 1, 0));
        no(HOUSE, -12, x -> x.hangs(1, 0, 2, 0), x -> x.hangs(1, 1, 2, 9));
        no(HOUSE, -1, x -> x.hangs(3, 0, 3, 0), x -> x.hangs(3, 0, 1, -1), x -> x.hangs(3, 0, 1, 10), x -> x.hangs(3, -1, 1, 0));
        no(HOUSE, -2, x -> x.hangs(0, 0, 3, -1), x -> x.hangs(0, 0, 3, 10), x -> x.hangs(2, 0, 0, 0), x -> x.hangs(0, 4, 0, 0));
        no(HOUSE, -4, x -> x.hangs(2, 0, 1, -1), x -> x.hangs(0, 4, 1, -1), x -> x.hangs(1, 0, 2, -1));
        no(HOUSE, -6, x -> x.hangs(2, 0, 1, 10), x -> x.hangs(0, 4, 1, 10), x -> x.hangs(1, 0, 2, 10));
        no(HOUSE, -11, x -> x.hangs(2, -1, 1, 0));
        no(HOUSE, -13, x -> x.hangs(1, 2, 2, 0));
    }

    private static void coats() {
        part("promise 37");
        only(HOUSE, 14, x -> x.coat(0, 0));
        only(HOUSE, 23, x -> x.coat(0, 1));
        no(HOUSE, -1, x -> x.coat(-1, 0), x -> x.coat(3, 0), x -> x.coat(MIN, 0), x -> x.coat(MAX, 0));
        no(HOUSE, -11, x -> x.coat(2, 0));
        no(HOUSE, -13, x -> x.coat(0, -1), x -> x.coat(0, 4), x -> x.coat(0, MIN), x -> x.coat(0, MAX));
        no(HOUSE, -15, x -> x.coat(0, 2), x -> x.coat(0, 3), x -> x.coat(1, 0));
        no(HOUSE, -1, x -> x.coat(3, -1));
        no(HOUSE, -11, x -> x.coat(2, -1));
        part("promise 38");
        yes(HOUSE, x -> x.wears(0, 0, 0), x -> x.wears(2, 0, 1));
        no(HOUSE, -1, x -> x.wears(-1, 0, 0), x -> x.wears(3, 0, 0), x -> x.wears(MIN, 0, 0), x -> x.wears(MAX, 0, 0));
        no(HOUSE, -1, x -> x.wears(0, -1, 0), x -> x.wears(0, 3, 0), x -> x.wears(0, MIN, 0), x -> x.wears(0, MAX, 0));
        no(HOUSE, -11, x -> x.wears(0, 2, 0));
        no(HOUSE, -13, x -> x.wears(0, 0, -1), x -> x.wears(0, 0, 4), x -> x.wears(0, 0, MIN), x -> x.wears(0, 0, MAX));
        no(HOUSE, -15, x -> x.wears(0, 0, 2), x -> x.wears(0, 1, 1));
        no(HOUSE, -1, x -> x.wears(3, 2, 0), x -> x.wears(3, 0, 4), x -> x.wears(0, 3, -1), x -> x.wears(3, 0, 2));
        no(HOUSE, -11, x -> x.wears(0, 2, -1));
        part("promise 39");
        yes(HOUSE, x -> x.moves(0, 0, 1, 0, 1), x -> x.moves(0, 0, 0, 0, 4), x -> x.moves(0, 4, 1, 2, 0));
        no(HOUSE, -1, x -> x.moves(-1, 0, 0, 0, 0), x -> x.moves(3, 0, 0, 0, 0), x -> x.moves(0, 0, -1, 0, 0));
        no(HOUSE, -1, x -> x.moves(0, 0, 3, 0, 0), x -> x.moves(MIN, 0, 0, 0, 0), x -> x.moves(0, 0, MAX, 0, 0));
        no(HOUSE, -11, x -> x.moves(2, 0, 0, 0, 0), x -> x.moves(0, 0, 2, 0, 0), x -> x.moves(2, 0, 2, 0, 0));
        no(HOUSE, -13, x -> x.moves(0, 0, 1, 0, -1), x -> x.moves(0, -1, 1, 0, 1), x -> x.moves(0, 0, 1, -1, 1));
        no(HOUSE, -13, x -> x.moves(0, 0, 1, 0, MIN), x -> x.moves(0, MIN, 1, 0, 0), x -> x.moves(0, 0, 1, MIN, 0));
        no(HOUSE, -13, x -> x.moves(0, -1, 1, 0, 0), x -> x.moves(0, 0, 1, -1, 0));
        no(HOUSE, -13, x -> x.moves(0, 5, 1, 0, 0), x -> x.moves(0, 0, 1, 3, 0));
        no(HOUSE, -13, x -> x.moves(0, 4, 1, 0, 1), x -> x.moves(0, 3, 1, 0, 2), x -> x.moves(0, 2, 1, 2, 1));
        no(HOUSE, -13, x -> x.moves(0, 0, 1, 0, 3), x -> x.moves(1, 0, 0, 0, 3), x -> x.moves(0, 0, 0, 0, 5));
        no(HOUSE, -13, x -> x.moves(0, MAX, 1, 0, MAX), x -> x.moves(0, 0, 1, MAX, MAX), x -> x.moves(0, 1, 0, 0, MAX));
        no(HOUSE, -12, x -> x.moves(0, 1, 1, 0, 1), x -> x.moves(0, 1, 1, 1, 1));
        no(HOUSE, -1, x -> x.moves(3, 0, 2, 0, 0), x -> x.moves(2, 0, 3, 0, -1));
        no(HOUSE, -11, x -> x.moves(2, -1, 0, 0, 0), x -> x.moves(0, 0, 2, 0, -1));
        no(HOUSE, -13, x -> x.moves(0, 1, 1, 0, 3), x -> x.moves(0, 1, 1, 1, 2));
    }

    private static void theRest() {
        part("promise 40");
        yes(HOUSE, x -> x.row(0), x -> x.row(99));
        no(HOUSE, -4, x -> x.row(-1), x -> x.row(MIN));
        no(HOUSE, -6, x -> x.row(100), x -> x.row(MAX));
        no(FULL, -6, x -> x.row(0), x -> x.row(99), x -> x.row(100));
        no(FULL, -4, x -> x.row(-1));
        part("promise 43");
        yes(HOUSE, x -> x.lots(1, MIN, 0), x -> x.lots(20, MAX, 1));
        no(HOUSE, -4, x -> x.lots(0, 0, 0), x -> x.lots(-1, 0, 0), x -> x.lots(MIN, 0, 0));
        no(HOUSE, -6, x -> x.lots(21, 0, 0), x -> x.lots(MAX, 0, 0));
        no(HOUSE, -2, x -> x.lots(1, 0, -1), x -> x.lots(1, 0, 2), x -> x.lots(20, 0, MIN), x -> x.lots(20, 0, MAX));
        no(HOUSE, -4, x -> x.lots(0, 0, 2));
        no(HOUSE, -6, x -> x.lots(21, 0, 2));
        part("promise 45");
        yes(HOUSE, DraughtsTake::restore);
        no(EMPTY, -3, DraughtsTake::restore);
        part("promise 46");
        for (int k = 0; k < 17; k++) {
            int what = k;
            yes(HOUSE, x -> x.count(what));
        }
        only(HOUSE, -9, x -> x.count(-1), x -> x.count(10), x -> x.count(17), x -> x.count(MIN), x -> x.count(MAX));
    }

    /** Calls that answer what is no refusal though it is below 0, or that have none at all. */
    private static void whatIsNoRefusal() {
        part("no refusals");
        yes(HOUSE, DraughtsTake::house, DraughtsTake::clearHearth, DraughtsTake::judge, DraughtsTake::clear, DraughtsTake::image);
        yes(EMPTY, DraughtsTake::house, DraughtsTake::clearHearth, DraughtsTake::judge, DraughtsTake::clear, DraughtsTake::image);
        yes(FULL, DraughtsTake::house, DraughtsTake::clearHearth, DraughtsTake::judge, DraughtsTake::clear, DraughtsTake::image);
        only(HOUSE, -9, x -> x.cell(2, 2), x -> x.cell(2, 3));
        only(EMPTY, -1000, DraughtsTake::house);
        only(EMPTY, -9, DraughtsTake::judge);
        only(EMPTY, 0, DraughtsTake::clear);
    }

    /** 512 calls is what an object is used for: the last one is answered as well. */
    private static void manyRefusals() {
        part("512 calls");
        DraughtsTake x = new DraughtsTake();
        for (int k = 0; k < 511; k++) {
            x.sit(-1, 0);
        }
        due("the last", x.count(11), 511);
    }

    public static void main(String[] args) {
        whatTheHousesAre();
        lettersAndLooks();
        whoComes();
        whatIsChanged();
        turnsAndBack();
        inMind();
        whatToShut();
        whatIsGuessed();
        odds();
        sumsAndKinds();
        rowsOfPegs();
        coats();
        theRest();
        whatIsNoRefusal();
        manyRefusals();
        end("all refusals are as due");
    }
}
