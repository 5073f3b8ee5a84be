/** All that can be seen of an object but how many refusals there were. The object is used up by it: all is taken back, restored, told. */
final class Look {
    private final DraughtsTake of;
    private final StringBuilder seen = new StringBuilder();

    private Look(DraughtsTake of) {
        this.of = of;
    }

    static String at(DraughtsTake x) {
        Look look = new Look(x);
        look.atTheCells();
        look.atWhoIsThere();
        look.atThePegs();
        look.see("judge", x.judge());
        look.atWhatCanBeTakenBack();
        look.see("restore", x.restore());
        look.atTheCells();
        look.atWhoIsThere();
        look.atTheLetters();
        return look.seen.toString();
    }

    private void see(String name, long answer) {
        seen.append(name).append(' ').append(answer).append("; ");
    }

    private void atTheCells() {
        for (int cell = 0; cell < 36; cell++) {
            see("warm", of.warm(cell));
        }
        for (int cell = 0; cell < 36 && of.count(6) > 0; cell++) {
            see("shut", of.cell(cell, 0));
        }
    }

    private void atWhoIsThere() {
        for (int air = 0; air < of.count(0); air++) {
            for (int what = 0; what < 5; what++) {
                see("air", of.air(air, what));
            }
        }
        for (int sitter = 0; sitter < of.count(1); sitter++) {
            see("sitter", of.sitter(sitter, 0) * 10 + of.sitter(sitter, 1));
        }
        for (int what = 0; what < 10; what++) {
            see("count " + what, of.count(what));
        }
        see("hearth", of.warmThen(0, 1));
        see("hearth", of.warmThen(35, 2));
    }

    private void atThePegs() {
        for (int peg = 0; peg < 3; peg++) {
            for (int i = 0; i < 12; i++) {
                see("coat", of.coat(peg, i));
            }
            see("cape", of.hangs(peg, 0, 1, 0));
            see("fur", of.hangs(peg, 0, 2, 0));
        }
    }

    private void atWhatCanBeTakenBack() {
        for (int left = of.count(9); left > 0; left--) {
            see("back", of.back());
            see("sum", of.sum(0));
            see("on", of.count(4));
            see("turn", of.count(2));
            see("shut", of.count(6));
            see("hearth", of.warmThen(0, 1));
            see("way", of.air(0, 3));
            see("shawls", of.sitter(0, 1));
        }
    }

    /** A letter more ends the last statement, where there is room for one. */
    private void atTheLetters() {
        see("letter", of.feed(';'));
        see("house", of.house());
        see("warm", of.warm(0));
    }
}
