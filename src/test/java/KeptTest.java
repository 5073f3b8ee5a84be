import java.util.function.Supplier;

/** The boundaries that the Terms III and IV name: what is TAKEN BACK, the coldest, sums, the nearest, pegs, THE IMAGE; and counts. */
public final class KeptTest extends Due {
    private static final Supplier<DraughtsTake> HOUSE = KeptTest::house;
    /** Each call that can be TAKEN BACK, as one that changes something. */
    private static final Call[] CHANGES = {x -> x.shuts(0), x -> x.warms(5, -100), x -> x.sits(0, 35), x -> x.blows(0, 3),
        x -> x.wraps(0, 9), x -> x.wears(0, 0, 0), x -> x.step(2, 99), DraughtsTake::clearHearth, x -> x.turns(60)};
    /** Those of them by which all can stay as it was. */
    private static final Call[] NO_CHANGES = {x -> x.warms(5, 16), x -> x.blows(0, 0), x -> x.wraps(0, 0), x -> x.wears(0, 0, 1),
        DraughtsTake::clearHearth};

    /** An air, a sitter ON, one OFF; a cape of 4 and one of 0 on peg 0; nothing that can be TAKEN BACK. */
    private static DraughtsTake house() {
        DraughtsTake x = told("a00210;p140;p290;w2900;lt16;t01;");
        x.blows(0, 0);
        tell(x, "d07;d07;");
        x.pegs(0, 0, 2);
        x.hangs(0, 0, 1, 4);
        x.hangs(0, 1, 1, 0);
        return x;
    }

    private static DraughtsTake emptied() {
        DraughtsTake x = house();
        x.clearHearth();
        return tell(x, "l;") == 1 ? x : null;
    }

    private static String look(DraughtsTake x) {
        StringBuilder seen = new StringBuilder();
        for (int cell = 0; cell < 36; cell++) {
            seen.append(x.warm(cell)).append(' ').append(x.cell(cell, 0)).append(' ');
        }
        for (int what = 0; what < 5; what++) {
            seen.append(x.air(0, what)).append(' ').append(x.sitter(what % 2, what / 2)).append(' ');
        }
        for (int what = 0; what < 7; what++) {
            seen.append(x.count(what)).append(' ');
        }
        return seen.append(x.warmThen(0, 1)).toString();
    }

    private static void eachIsTakenBack() {
        part("TAKEN BACK");
        no(HOUSE, -3, DraughtsTake::back);
        String was = look(house());
        for (int k = 0; k < CHANGES.length; k++) {
            DraughtsTake x = house();
            CHANGES[k].applyAsLong(x);
            due("1 can be, " + k, x.count(9), 1);
            due("something is changed, " + k, look(x).equals(was) ? 1 : 0, 0);
            due("none more, " + k, x.back(), 0);
            due("as it was, " + k, look(x).equals(was) ? 1 : 0, 1);
            due("no further, " + k, x.back(), -3);
        }
        for (int k = 0; k < NO_CHANGES.length; k++) {
            DraughtsTake x = emptied();
            String all = look(x);
            NO_CHANGES[k].applyAsLong(x);
            due("nothing is changed, " + k, look(x).equals(all) ? 1 : 0, 1);
            due("it counts, " + k, x.count(9), 1);
            due("none more, " + k, x.back(), 0);
        }
        DraughtsTake x = house();
        x.wears(0, 0, 0);
        x.back();
        due("the peg's place stays empty", x.coat(0, 0), -15);
        x.sits(1, 29);
        due("who was OFF is OFF again", x.sitter(1, 2) * 100 + x.back() * 10 + x.sitter(1, 2), 100);
    }

    private static void eightAtMost() {
        part("8 at most");
        for (int many = 0; many <= 20; many++) {
            DraughtsTake x = new DraughtsTake();
            for (int k = 0; k < many; k++) {
                x.warms(0, k);
                due("so many of " + many, x.count(9), Math.min(k + 1, 8));
            }
            for (int k = many - 1; k >= Math.max(0, many - 8); k--) {
                due("the latest first", x.back(), k - Math.max(0, many - 8));
                due("as it was, " + k, x.cell(0, 4), k == 0 ? 16 : k - 1);
            }
            due("older ones no more", x.back(), -3);
            due("nothing is changed by that", x.cell(0, 4), many == 0 ? 16 : many < 9 ? 16 : many - 9);
        }
        DraughtsTake x = new DraughtsTake();
        for (int k = 0; k < 8; k++) {
            CHANGES[k % 2].applyAsLong(x);
        }
        due("one back, one more", x.back() * 10 + x.shuts(1) + x.count(9), 79);
        due("eight", x.count(9), 8);
    }

    private static void whatLeavesNone() {
        part("leave none");
        Call[] leaveNone = {x -> x.comes(0, 0, 35), x -> x.sitsDown(35), x -> tell(x, "l;"), DraughtsTake::restore};
        Call[] refused = {x -> x.comes(0, 0, 14), x -> x.comes(8, 0, 0), x -> x.sitsDown(14), x -> x.sitsDown(36), x -> tell(x, "l"),
            x -> tell(x, "d36;"), DraughtsTake::house, x -> x.turns(0), x -> x.turns(61), x -> x.warms(0, 101), x -> x.wears(0, 0, 2),
            x -> x.wears(0, 1, 0), x -> x.wraps(0, 10), x -> x.blows(0, 4), x -> x.sits(0, 14), x -> x.shuts(14), x -> x.step(0, 100)};
        Call[] others = {DraughtsTake::image, x -> x.feed('l'), x -> x.row(3), DraughtsTake::judge, DraughtsTake::clear,
            x -> x.pegs(0, 0, 3), x -> x.hangs(0, 0, 1, 1), x -> x.moves(0, 0, 0, 1, 1), x -> x.lots(3, 3, 0), x -> x.then(60, 0),
            x -> x.sit(0, 0), x -> x.most(30)};
        for (Call call : leaveNone) {
            DraughtsTake x = eight();
            call.applyAsLong(x);
            due("none", x.count(9), 0);
            due("none", x.back(), -3);
            x.warms(0, 7);
            x.warms(0, 8);
            due("two more", x.back() * 1000 + x.cell(0, 4) * 10 + x.back(), 1070);
            due("no older ones", x.back(), -3);
        }
        for (int k = 0; k < refused.length + others.length; k++) {
            DraughtsTake x = eight();
            (k < refused.length ? refused[k] : others[k - refused.length]).applyAsLong(x);
            due("all 8 behind " + k, x.count(9), 8);
            due("7 behind " + k, x.back(), 7);
            due("the last is taken back, " + k, x.cell(0, 4), 6);
        }
        DraughtsTake x = house();
        x.restore();
        due("a restore() without an image", x.count(13), 1);
        x.warms(0, 1);
        x.restore();
        due("leaves all", x.count(9), 1);
    }

    private static DraughtsTake eight() {
        DraughtsTake x = house();
        x.image();
        for (int k = 0; k < 8; k++) {
            x.warms(0, k);
        }
        return x;
    }

    private static void coldestAndSums() {
        part("COLDEST");
        due("of 36 the least", new DraughtsTake().coldest(-1), 0);
        for (int cell = 0; cell < 36; cell++) {
            DraughtsTake x = new DraughtsTake();
            x.warms(cell, 15);
            due("the one", x.coldest(-1), cell);
            due("not above it", x.coldest(cell), 1);
            due("not above another", x.coldest((cell + 1) % 36), 36);
            x.warms(35, 15);
            due("of two the least", x.coldest(-1), cell);
            due("not above it", x.coldest(35), cell == 35 ? 1 : 2);
            x.warms(cell, 17);
            due("not above the warmest", x.coldest(cell), 36);
            due("not above another", x.coldest((cell + 1) % 36), cell == 34 ? 1 : 35);
        }
        DraughtsTake x = told("w0016;la01;t01;");
        x.warms(20, 16);
        due("an eighth less", x.coldest(-1) * 100 + x.coldest(20), 2001);
        part("SUM");
        sums("at first", 16, 16, bits(576f), 1600);
        sums("the greatest", 100, 100, bits(3600f), 10000);
        sums("the least", -100, -100, bits(-3600f), -10000);
        sums("577 over 36, cut", 16, 17, bits(577f), 1602);
        sums("-577 over 36, cut", -16, -17, bits(-577f), -1602);
        sums("1 over 36, cut", 0, 1, bits(1f), 2);
        sums("-1 over 36, cut", 0, -1, bits(-1f), -2);
        sums("0", 0, 0, 0, 0);
        x = told("lm01;t03;");
        x.warms(35, 100);
        x.clearHearth();
        float all = 0f;
        for (int cell = 0; cell < 35; cell++) {
            all += 16f / 4096f;
        }
        due("CELL by CELL", x.sum(0), bits(all + 100f));
        x = told("lm03;t05;");
        x.warms(0, 100);
        float third = 16f;
        for (int turn = 0; turn < 5; turn++) {
            third *= 3f / 16f;
        }
        all = 100f;
        for (int cell = 1; cell < 36; cell++) {
            all += third;
        }
        due("the greatest ahead", x.sum(0), bits(all));
        due("its mean", x.sum(1), (int) (all / 36.0f * 100.0f));
    }

    private static void sums(String name, int each, int last, int sum, int mean) {
        DraughtsTake x = new DraughtsTake();
        for (int cell = 0; cell < 36; cell++) {
            x.warms(cell, cell == 35 ? last : each);
        }
        due(name, x.sum(0), sum);
        due(name + ", mean", x.sum(1), mean);
    }

    private static void nearest() {
        part("NEAREST");
        due("no air", told("p140;").nearest(0, 0), -9);
        due("no air, how many", told("p140;").nearest(0, 1), -9);
        int[][] cells = {{0, 35, 10}, {35, 0, 10}, {5, 30, 10}, {5, 6, 6}, {0, 1, 1}, {0, 6, 1}, {14, 21, 2}, {17, 18, 6}};
        for (int[] c : cells) {
            DraughtsTake x = told("p" + two(c[0]) + "0;a00" + two(c[1]) + "0;");
            due("from " + c[0] + " to " + c[1], x.nearest(0, 0) * 100 + x.nearest(0, 1), c[2]);
        }
        DraughtsTake x = told("p140;w1400;t01;a00150;a00140;");
        due("on the cell of one OFF", x.nearest(0, 0) * 100 + x.nearest(0, 1), 100);
        x = told("p140;a00000;a00280;a00040;a00240;a00020;");
        due("4, 4, 4, 4, 2: the last of five", x.nearest(0, 0) * 100 + x.nearest(0, 1), 402);
        x = told("p140;a00000;a00280;a00040;a00240;");
        due("4, 4, 4, 4: the least", x.nearest(0, 0) * 100 + x.nearest(0, 1), 4);
    }

    private static void rowsOfPegs() {
        part("PEGS");
        for (int n = 0; n <= 12; n++) {
            for (int sort = 0; sort < 3; sort++) {
                DraughtsTake x = new DraughtsTake();
                due("no row", x.coat(sort, 0), -11);
                due("a row of " + n, x.pegs(sort, sort, n), 1);
                for (int i = -1; i <= n; i++) {
                    boolean is = i >= 0 && i < n;
                    due("at first at " + i + " of " + n, x.coat(sort, i), is ? -15 : -13);
                    due("a cape at " + i + " of " + n, x.hangs(sort, i, 1, 9), !is ? -13 : sort == 2 ? -12 : 1);
                    due("a fur at " + i + " of " + n, x.hangs(sort, i, 2, 0), !is ? -13 : sort == 1 ? -12 : 1);
                    due("then", x.coat(sort, i), !is ? -13 : sort == 1 ? 19 : 20);
                }
                due("the next peg has no row", x.coat((sort + 1) % 3, 0), -11);
            }
        }
        DraughtsTake x = new DraughtsTake();
        due("13", x.pegs(0, 0, 13), -6);
        due("no row by that", x.coat(0, 0), -11);
        due("-1", x.pegs(0, 0, -1), -14);
        due("no row by that", x.coat(0, 0), -11);
        x.pegs(0, 0, 12);
        x.hangs(0, 11, 2, 9);
        due("the most", x.coat(0, 11), 29);
        x.hangs(0, 11, 1, 0);
        due("another coat instead", x.coat(0, 11), 10);
        for (int i = 0; i < 12; i++) {
            x.hangs(0, i, 1, i % 10);
        }
        x.pegs(0, 0, 12);
        for (int i = 0; i < 12; i++) {
            due("a row anew is empty", x.coat(0, i), -15);
        }
        x.pegs(0, 0, 0);
        due("a row of none has no place", x.coat(0, 0), -13);
        due("nor for wearing", told("p000;").wears(0, 0, 0), -11);
    }

    private static void worn() {
        part("WORN");
        for (int shawls = 0; shawls < 10; shawls++) {
            for (int thickness = 0; thickness < 10; thickness++) {
                for (int sort = 1; sort < 3; sort++) {
                    DraughtsTake x = told("p14" + shawls + ";");
                    x.pegs(2, 0, 12);
                    x.hangs(2, 11, sort, thickness);
                    int due = Math.min(9, shawls + sort * thickness);
                    String name = shawls + " and " + sort + " times " + thickness;
                    due(name, x.wears(0, 2, 11), due);
                    due(name + ", then", x.sitter(0, 1), due);
                    due(name + ", its place", x.coat(2, 11), -15);
                    due(name + ", again", x.wears(0, 2, 11), -15);
                    due(name + ", back", x.back() * 10 + x.sitter(0, 1), shawls);
                    due(name + ", its place still", x.coat(2, 11), -15);
                }
            }
        }
        DraughtsTake x = told("p140;w1400;t01;");
        x.pegs(0, 1, 1);
        x.hangs(0, 0, 1, 2);
        due("by one OFF", x.wears(0, 0, 0) * 10 + x.sitter(0, 2), 20);
    }

    /** Peg 0 with a row of 12 for any: capes of 0, 1, 2, .., a fur at one place (12: at none), an empty place at 5. */
    private static DraughtsTake twelve(int fur) {
        DraughtsTake x = new DraughtsTake();
        x.pegs(0, 0, 12);
        x.pegs(1, 1, 12);
        for (int i = 0; i < 12; i++) {
            if (i != 5) {
                x.hangs(0, i, i == fur ? 2 : 1, i % 10);
            }
            x.hangs(1, i, 1, 9);
        }
        return x;
    }

    private static int coatOf(int i, int fur) {
        return i == 5 ? -15 : (i == fur ? 20 : 10) + i % 10;
    }

    private static void moved() {
        part("MOVED");
        for (int fur = 0; fur <= 12; fur++) {
            DraughtsTake x = twelve(fur);
            due("12, a fur at " + fur, x.moves(0, 0, 1, 0, 12), fur == 12 || fur == 5 ? 12 : -12);
            for (int i = 0; i < 12; i++) {
                due("place " + i + ", a fur at " + fur, x.coat(1, i), i < fur || fur == 5 ? coatOf(i, fur) : 19);
                due("where it was, " + i, x.coat(0, i), coatOf(i, fur));
            }
            due("it is not counted", x.count(12) + x.count(13) + x.count(16), 0);
            due("it can't be TAKEN BACK", x.back(), -3);
        }
        for (int n = 0; n <= 12; n++) {
            DraughtsTake up = twelve(11);
            DraughtsTake down = twelve(11);
            due("up by the most, " + n, up.moves(0, 0, 0, 12 - n, n), n);
            due("down by the most, " + n, down.moves(0, 12 - n, 0, 0, n), n);
            for (int i = 0; i < 12; i++) {
                due("up " + n + ", place " + i, up.coat(0, i), coatOf(i < 12 - n ? i : i - 12 + n, 11));
                due("down " + n + ", place " + i, down.coat(0, i), coatOf(i < n ? i + 12 - n : i, 11));
            }
            due("1 too far", twelve(12).moves(0, 13 - n, 1, 0, n), -13);
            due("1 too far there", twelve(12).moves(0, 0, 1, 13 - n, n), -13);
            due("just as far", twelve(12).moves(0, 12 - n, 1, 12 - n, n), n);
        }
        DraughtsTake x = twelve(12);
        x.pegs(2, 2, 3);
        due("a cape to furs", x.moves(0, 0, 2, 0, 1), -12);
        due("an empty place to furs, then a cape", x.moves(0, 5, 2, 0, 2), -12);
        due("an empty place to furs", x.moves(0, 5, 2, 2, 1) * 100 + x.coat(2, 2), 85);
        x.hangs(2, 0, 2, 0);
        due("a fur of 0 to capes", x.moves(2, 0, 1, 0, 1), -12);
        due("capes to any", x.moves(1, 0, 0, 0, 12) * 100 + x.coat(0, 11), 1219);
        x.pegs(2, 0, 0);
        due("none of a row of none", x.moves(2, 0, 2, 0, 0), 0);
        due("one of a row of none", x.moves(2, 0, 2, 0, 1), -13);
    }

    private static void theImage() {
        part("THE IMAGE");
        no(HOUSE, -3, DraughtsTake::restore);
        String was = look(house());
        for (Call change : CHANGES) {
            DraughtsTake x = house();
            due("its TURN", x.image(), 1);
            change.applyAsLong(x);
            due("RESTORED", x.restore(), 1);
            due("as it was", look(x).equals(was) ? 1 : 0, 1);
            due("none can be TAKEN BACK", x.count(9), 0);
            change.applyAsLong(x);
            due("once more", x.restore(), 1);
            due("as it was", look(x).equals(was) ? 1 : 0, 1);
        }
        DraughtsTake x = house();
        x.image();
        x.comes(1, 1, 0);
        x.sitsDown(1);
        tell(x, "d02;lc;");
        x.restore();
        due("who came is no more there", look(x).equals(was) ? 1 : 0, 1);
        due("nor does an air stand in the way", x.cell(0, 1) * 10 + x.cell(1, 1), 11);
        x.pegs(1, 0, 3);
        x.hangs(1, 2, 1, 5);
        x.feed('l');
        x.row(2);
        x.air(9, 9);
        x.restore();
        due("but not letters, the ROW, refusals", x.count(7) * 100 + x.count(8) * 10 + x.count(11), 111);
        due("nor pegs", x.coat(1, 2), 15);
        x = new DraughtsTake();
        due("of an empty one", x.image(), 0);
        goOn(x, 999);
        due("RESTORED", x.restore() + x.count(2), 0);
        goOn(x, 999);
        due("at TURN 999", x.image(), 999);
    }

    private static void counts() {
        part("counts");
        DraughtsTake x = new DraughtsTake();
        for (int what = -1; what < 18; what++) {
            due("of a new object, " + what, x.count(what), what == -1 || what == 10 || what == 17 ? -9 : 0);
        }
        for (int cell = 0; cell < 36; cell++) {
            x.shuts(cell);
            due("SHUT", x.count(6), cell + 1);
        }
        x.shuts(35);
        due("one less", x.count(6), 35);
        x = told("p000;p010;p020;p030;p040;p050;");
        due("six are ON", x.count(4), 63);
        for (int sitter = 0; sitter < 6; sitter++) {
            x.warms(sitter, 0);
            x.turns(1);
            due("bits", x.count(4), 63 >> sitter + 1 << sitter + 1);
            due("OFF, too, they are sitters", x.count(1), 6);
        }
        x = new DraughtsTake();
        x.air(0, 0);
        x.sum(2);
        x.sum(2);
        x.back();
        x.back();
        x.back();
        x.turns(0);
        x.turns(61);
        x.turns(61);
        int[] many = {1, 2, 3, 1, 0, 2};
        for (int k = 0; k < 6; k++) {
            due("with " + (-1 - k), x.count(11 + k), many[k]);
        }
    }

    public static void main(String[] args) {
        eachIsTakenBack();
        eightAtMost();
        whatLeavesNone();
        coldestAndSums();
        nearest();
        rowsOfPegs();
        worn();
        moved();
        theImage();
        counts();
        end("all that is kept is as due");
    }
}
