/** Promises 11 to 14 and 22: words, elements, their order, what they come to, and bonuses. */
final class ElementsTest {
    private ElementsTest() {
    }

    static void run() {
        word();
        wordsMost();
        element();
        needingItself();
        order();
        values();
        rounding();
        keptInBounds();
        sources();
        sets();
        bonus();
    }

    /** Makes an element for all out of pairs of words and numbers. */
    private static void make(Taxmaze x, int number, int... words) {
        for (int i = 0; i < words.length; i += 2) {
            x.word(words[i], words[i + 1]);
        }
        x.element(number, 63);
    }

    private static void word() {
        Taxmaze x = new Taxmaze();
        Check.unfit("11: what -1", () -> x.word(-1, 0));
        Check.unfit("11: what 10", () -> x.word(10, 0));
        Check.unfit("11: element -1", () -> x.word(Taxmaze.ELEMENT, -1));
        Check.unfit("11: element 6", () -> x.word(Taxmaze.ELEMENT, 6));
        Check.unfit("11: money below", () -> x.word(Taxmaze.MONEY, -1000001));
        Check.unfit("11: money above", () -> x.word(Taxmaze.MONEY, 1000001));
        for (int what = Taxmaze.PLUS; what <= Taxmaze.GREATER; what++) {
            int joining = what;
            Check.refused("11: nothing on the pile", () -> x.word(joining, 0));
        }
        Check.same("11: base", x.word(Taxmaze.BASE, Integer.MIN_VALUE), 1);
        for (int what = Taxmaze.PLUS; what <= Taxmaze.GREATER; what++) {
            int joining = what;
            Check.refused("11: one on the pile", () -> x.word(joining, 0));
        }
        Check.same("11: hours", x.word(Taxmaze.HOURS, Integer.MAX_VALUE), 2);
        Check.same("11: an element at the end", x.word(Taxmaze.ELEMENT, 5), 3);
        Check.same("11: money at the ends", x.word(Taxmaze.MONEY, -1000000) + x.word(Taxmaze.MONEY, 1000000), 4 + 5);
        for (int words = 6; words < 10; words++) {
            Check.same("11: joining", x.word(Taxmaze.PLUS, -5), words);
        }
        Check.refused("11: one is left", () -> x.word(Taxmaze.MINUS, 0));
        Check.same("11: the tenth", x.word(Taxmaze.MONEY, 0), 10);
    }

    private static void wordsMost() {
        Taxmaze x = new Taxmaze();
        for (int words = 1; words <= 10; words++) {
            Check.same("11: ten", x.word(Taxmaze.MONEY, words), words);
        }
        Check.refused("11: eleven", () -> x.word(Taxmaze.MONEY, 0));
        Check.refused("11: eleven, joining", () -> x.word(Taxmaze.PLUS, 0));
        Check.unfit("11: the number ahead of that", () -> x.word(Taxmaze.MONEY, 1000001));
        Check.refused("12: ten on the pile", () -> x.element(0, 63));
    }

    private static void element() {
        Taxmaze x = new Taxmaze();
        Check.missing("12: number -1", () -> x.element(-1, 63));
        Check.missing("12: number 1, ahead of people", () -> x.element(1, 64));
        Check.unfit("12: people -1", () -> x.element(0, -1));
        Check.unfit("12: people 64, ahead of the draft", () -> x.element(0, 64));
        Check.refused("12: an empty draft", () -> x.element(0, 63));
        x.word(Taxmaze.MONEY, 5);
        x.word(Taxmaze.MONEY, 6);
        Check.refused("12: two on the pile", () -> x.element(0, 63));
        Check.same("12: the draft is still there", x.word(Taxmaze.PLUS, 0), 3);
        Check.same("12: the first", x.element(0, 63), 1);
        Check.same("12: the draft is empty then", x.word(Taxmaze.MONEY, 1), 1);
        Check.same("12: the formula of one that there is", x.element(0, 1), 1);
        Check.same("12: it is another now", x.elementOf(0, 0, 0), 1);
        Check.same("12: for others now", x.elementOf(0, 1, 0), 0);
        for (int number = 1; number < 6; number++) {
            x.word(Taxmaze.MONEY, number);
            Check.same("12: the next", x.element(number, 0), number + 1);
        }
        x.word(Taxmaze.MONEY, 1);
        Check.missing("12: seven", () -> x.element(6, 63));
        Check.same("12: the last again", x.element(5, 63), 6);
    }

    private static void needingItself() {
        Taxmaze x = new Taxmaze();
        x.word(Taxmaze.ELEMENT, 0);
        Check.refused("12: itself", () -> x.element(0, 63));
        Check.missing("12: it was not made", () -> x.order(0));
        x.word(Taxmaze.ELEMENT, 1);
        x.word(Taxmaze.PLUS, 0);
        Check.refused("12: itself among others", () -> x.element(0, 63));
        Taxmaze y = new Taxmaze();
        make(y, 0, Taxmaze.ELEMENT, 2);
        Check.same("12: one that is not there is 0", y.elementOf(0, 0, 0), 0);
        make(y, 1, Taxmaze.ELEMENT, 0);
        y.word(Taxmaze.ELEMENT, 1);
        Check.refused("12: over two others", () -> y.element(2, 0));
        Check.same("12: there are two", y.order(1), 1);
        Check.missing("12: and no third", () -> y.order(2));
        Taxmaze z = new Taxmaze();
        make(z, 0, Taxmaze.ELEMENT, 1);
        make(z, 1, Taxmaze.MONEY, 3);
        make(z, 0, Taxmaze.MONEY, 4);
        make(z, 1, Taxmaze.ELEMENT, 0);
        Check.same("12: the old formula of one does not count", z.elementOf(1, 0, 0), 4);
    }

    private static void order() {
        Taxmaze x = new Taxmaze();
        Check.missing("13: none", () -> x.order(0));
        make(x, 0, Taxmaze.ELEMENT, 2);
        make(x, 1, Taxmaze.MONEY, 7);
        Check.same("13: one that is not there is not waited for", x.order(0), 0);
        make(x, 2, Taxmaze.MONEY, 9);
        Check.same("13: the lowest that can", x.order(0), 1);
        Check.same("13: then what is needed", x.order(1), 2);
        Check.same("13: then what needs it", x.order(2), 0);
        Check.missing("13: place -1", () -> x.order(-1));
        Check.missing("13: place 3", () -> x.order(3));
        make(x, 3, Taxmaze.MONEY, 1);
        Check.same("13: the lower one is ahead as soon as it can be", x.order(2) * 10 + x.order(3), 3);
        make(x, 2, Taxmaze.ELEMENT, 3);
        Check.same("13: anew by a new formula", x.order(0) * 1000 + x.order(1) * 100 + x.order(2) * 10 + x.order(3), 1320);
        Check.same("13: what it comes to in that order", x.elementOf(0, 0, 0), 1);
    }

    private static void values() {
        int[] whats = {Taxmaze.PLUS, Taxmaze.MINUS, Taxmaze.TIMES, Taxmaze.PERMILLE, Taxmaze.LESSER, Taxmaze.GREATER};
        long[] due = {5300, 4700, 1500000, 1500, 300, 5000};
        for (int i = 0; i < whats.length; i++) {
            Taxmaze x = new Taxmaze();
            make(x, 0, Taxmaze.MONEY, 1, Taxmaze.MONEY, 5000, Taxmaze.MONEY, 300, whats[i], 0, Taxmaze.GREATER, 0);
            Check.same("12: the upper two by " + whats[i], x.elementOf(0, 3, 23), due[i]);
        }
    }

    private static void rounding() {
        int[][] cases = {{150005, 100, 15001}, {150004, 100, 15000}, {-5, 100, 0}, {-15, 100, -1}, {-16, 100, -2}, {499, 1, 0}, {500, 1, 1}};
        for (int[] one : cases) {
            Taxmaze x = new Taxmaze();
            make(x, 0, Taxmaze.MONEY, one[0], Taxmaze.MONEY, one[1], Taxmaze.PERMILLE, 0);
            Check.same("12: to the nearest, halves up, " + one[0], x.elementOf(0, 0, 0), one[2]);
        }
    }

    private static void keptInBounds() {
        Taxmaze x = new Taxmaze();
        make(x, 0, Taxmaze.MONEY, 1000000, Taxmaze.MONEY, 1000000, Taxmaze.TIMES, 0);
        Check.same("12: not above", x.elementOf(0, 0, 0), 100000000);
        make(x, 1, Taxmaze.MONEY, -1000000, Taxmaze.MONEY, 1000000, Taxmaze.TIMES, 0);
        Check.same("12: not below", x.elementOf(1, 0, 0), -100000000);
        make(x, 2, Taxmaze.ELEMENT, 0, Taxmaze.ELEMENT, 0, Taxmaze.PLUS, 0, Taxmaze.ELEMENT, 1, Taxmaze.PLUS, 0);
        Check.same("12: all on the way too", x.elementOf(2, 0, 0), 0);
        make(x, 3, Taxmaze.ELEMENT, 0, Taxmaze.MONEY, 500, Taxmaze.PERMILLE, 0);
        Check.same("12: but not the product of the thousandths", x.elementOf(3, 0, 0), 50000000);
        make(x, 4, Taxmaze.ELEMENT, 1, Taxmaze.ELEMENT, 0, Taxmaze.MINUS, 0);
        Check.same("12: less than the least", x.elementOf(4, 0, 0), -100000000);
        make(x, 5, Taxmaze.BASE, 0);
        x.contract(0, 0, 0, 719, true, 600, 1000000);
        for (int day = 0; day < 6; day++) {
            x.shift(0, day, 0, 1440);
        }
        Check.same("12: the base above", x.base(0, 0) > 141000000 ? 1 : 0, 1);
        Check.same("12: is kept below", x.elementOf(5, 0, 0), 100000000);
        Check.same("12: in the gross it is whole", x.slip(0, 0, Taxmaze.GROSS), x.base(0, 0) + 50000000);
    }

    private static void sources() {
        Taxmaze x = new Taxmaze();
        x.contract(0, 0, 0, 719, true, 480, 1000);
        x.contract(0, 1, 0, 719, false, 480, 3000);
        x.contract(1, 1, 0, 719, false, 480, 70000);
        x.shift(0, 31, 0, 100);
        x.shift(1, 32, 0, 79);
        make(x, 0, Taxmaze.BASE, 0);
        make(x, 1, Taxmaze.HOURS, 0);
        Check.missing("22: element -1", () -> x.elementOf(-1, 0, 0));
        Check.missing("22: element 2", () -> x.elementOf(2, 0, 0));
        Check.missing("22: person 6", () -> x.elementOf(0, 6, 0));
        Check.missing("22: person -1", () -> x.elementOf(0, -1, 0));
        Check.missing("22: month -1", () -> x.elementOf(0, 0, -1));
        Check.missing("22: month 24", () -> x.elementOf(0, 0, 24));
        Check.same("22: all bases", x.elementOf(0, 0, 1), 1667 + 3000);
        Check.same("22: all minutes, rounded down", x.elementOf(1, 0, 1), 2);
        x.shift(1, 33, 0, 1);
        Check.same("22: one minute more", x.elementOf(1, 0, 1), 3);
        Check.same("22: another month", x.elementOf(1, 0, 0), 0);
        Check.same("22: somebody else", x.elementOf(0, 1, 1), 70000);
        make(x, 0, Taxmaze.MONEY, 4);
        Check.same("22: by the formula that there is now", x.elementOf(0, 0, 1), 4);
    }

    private static void sets() {
        Taxmaze x = new Taxmaze();
        x.word(Taxmaze.MONEY, 100);
        x.element(0, 1 << 2);
        make(x, 1, Taxmaze.ELEMENT, 0, Taxmaze.MONEY, 1, Taxmaze.PLUS, 0);
        Check.same("22: for them", x.elementOf(0, 2, 0), 100);
        Check.same("22: not for them", x.elementOf(0, 1, 0), 0);
        Check.same("22: what needs it, for them", x.elementOf(1, 2, 0), 101);
        Check.same("22: what needs it, not for them", x.elementOf(1, 5, 0), 1);
        Check.same("22: both in the gross", x.slip(2, 0, Taxmaze.GROSS), 201);
        Check.same("22: one in the gross", x.slip(5, 0, Taxmaze.GROSS), 1);
        x.word(Taxmaze.MONEY, 50);
        x.element(0, 0);
        Check.same("22: for nobody", x.elementOf(0, 2, 0), 0);
    }

    private static void bonus() {
        Taxmaze x = new Taxmaze();
        Check.missing("14: person -1", () -> x.bonus(-1, 0, 0, 0));
        Check.missing("14: person 6", () -> x.bonus(6, 0, 0, 0));
        Check.missing("14: month -1", () -> x.bonus(0, -1, 0, 0));
        Check.missing("14: month 24", () -> x.bonus(0, 24, 0, 0));
        Check.missing("14: place -1", () -> x.bonus(0, 0, -1, 0));
        Check.missing("14: place 3, ahead of the cents", () -> x.bonus(0, 0, 3, 10000001));
        Check.unfit("14: cents above", () -> x.bonus(0, 0, 0, 10000001));
        Check.unfit("14: cents below", () -> x.bonus(0, 0, 0, -10000001));
        Check.same("14: nothing before", x.bonus(5, 23, 2, 10000000), 0);
        Check.same("14: in place of it", x.bonus(5, 23, 2, -10000000), 10000000);
        Check.same("14: the gross there", x.slipIn(5, 23, 2, Taxmaze.GROSS), -10000000);
        Check.same("14: not elsewhere", x.slipIn(5, 23, 1, Taxmaze.GROSS), 0);
        Check.same("14: not in another month", x.slip(5, 22, Taxmaze.GROSS), 0);
        Check.same("14: of nobody else", x.slip(4, 23, Taxmaze.GROSS), 0);
        Check.same("14: by places", x.bonus(5, 23, 1, 7), 0);
        Check.same("14: added", x.slip(5, 23, Taxmaze.GROSS), -9999993);
    }
}
