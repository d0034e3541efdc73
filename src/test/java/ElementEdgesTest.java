/** Terms, ELEMENTS: those that are not there yet, rings over others, bounds, people without a contract, and places. */
final class ElementEdgesTest {
    private static final int MOST = 100000000;

    private ElementEdgesTest() {
    }

    static void run() {
        pileHeights();
        draftStays();
        notThereYet();
        rings();
        ringsOfOneWay();
        ringsByNewFormulas();
        longestChain();
        lowestFirst();
        keptFromNumbers();
        keptOnTheWay();
        upperTwo();
        peopleOfElements();
        hours();
        bases();
        withoutContract();
        placeOfElements();
        bonuses();
    }

    private static void make(Taxmaze x, int number, int... words) {
        for (int i = 0; i < words.length; i += 2) {
            x.word(words[i], words[i + 1]);
        }
        x.element(number, 63);
    }

    /** What a formula comes to for somebody without a contract. */
    private static long valueOf(int... words) {
        Taxmaze x = new Taxmaze();
        make(x, 0, words);
        return x.elementOf(0, 0, 0);
    }

    /** "There is not enough on the pile": two numbers for each word from PLUS on, of which one is left. */
    private static void pileHeights() {
        for (int what = Taxmaze.PLUS; what <= Taxmaze.GREATER; what++) {
            int joining = what;
            Taxmaze x = new Taxmaze();
            x.word(Taxmaze.MONEY, 1);
            Check.refused("11: one on the pile, " + what, () -> x.word(joining, 0));
            Check.same("11: a second one", x.word(Taxmaze.MONEY, 2), 2);
            Check.same("11: two on the pile, " + what, x.word(joining, 0), 3);
            Check.refused("11: one is left, " + what, () -> x.word(joining, 0));
            Check.same("12: that is enough for an element", x.element(0, 63), 1);
            Check.refused("11: nothing behind it, " + what, () -> x.word(joining, 0));
        }
        for (int what = Taxmaze.BASE; what <= Taxmaze.MONEY; what++) {
            Taxmaze x = new Taxmaze();
            Check.same("11: a number, " + what, x.word(what, 5), 1);
            Check.same("12: alone", x.element(0, 0), 1);
        }
    }

    private static void tellRing(Taxmaze x) {
        make(x, 0, Taxmaze.ELEMENT, 1);
        make(x, 1, Taxmaze.ELEMENT, 2);
        x.word(Taxmaze.ELEMENT, 0);
        x.word(Taxmaze.MONEY, 5);
        x.word(Taxmaze.PLUS, 0);
    }

    /** What is refused leaves the draft, and the elements, as they were. */
    private static void draftStays() {
        Twins.barred("12: over two others", ElementEdgesTest::tellRing, "element", 2, 63);
        Twins.barred("12: over one other", ElementEdgesTest::tellRing, "element", 1, 63);
        Twins.barred("12: itself", ElementEdgesTest::tellRing, "element", 0, 63);
        Twins.unfit("12: people 64 ahead of that", ElementEdgesTest::tellRing, "element", 2, 64);
        Twins.missing("12: number 3 ahead of that", ElementEdgesTest::tellRing, "element", 3, 64);
        Taxmaze x = new Taxmaze();
        tellRing(x);
        Check.refused("12: refused", () -> x.element(2, 63));
        Check.same("11: the draft has its three words", x.word(Taxmaze.MONEY, 6), 4);
        x.word(Taxmaze.PLUS, 0);
        Check.missing("12: the next one is the third still", () -> x.element(3, 63));
    }

    /** "An element that it asks for and that is not there is 0 until it is made." */
    private static void notThereYet() {
        for (int other = 1; other <= 5; other++) {
            Check.same("12: element " + other, valueOf(Taxmaze.ELEMENT, other, Taxmaze.MONEY, 7, Taxmaze.PLUS, 0), 7);
        }
        Taxmaze x = new Taxmaze();
        make(x, 0, Taxmaze.ELEMENT, 1, Taxmaze.MONEY, 7, Taxmaze.PLUS, 0);
        Check.same("13: it comes without the other", x.order(0), 0);
        make(x, 1, Taxmaze.MONEY, 100);
        Check.same("12: with it", x.elementOf(0, 0, 0), 107);
        Check.same("13: it comes behind it", x.order(0) * 10 + x.order(1), 10);
        make(x, 1, Taxmaze.MONEY, 200);
        Check.same("12: with its new formula", x.elementOf(0, 0, 0), 207);
        Check.same("20: both count", x.slip(0, 0, Taxmaze.GROSS), 407);
    }

    /** "One that would need itself, over others or not, cannot be told." */
    private static void rings() {
        for (int length = 1; length <= 6; length++) {
            Taxmaze x = new Taxmaze();
            for (int number = 0; number < length - 1; number++) {
                make(x, number, Taxmaze.ELEMENT, number + 1);
            }
            x.word(Taxmaze.MONEY, 1);
            x.word(Taxmaze.ELEMENT, 0);
            x.word(Taxmaze.PLUS, 0);
            int last = length - 1;
            Check.refused("12: a ring of " + length, () -> x.element(last, 63));
            Check.refused("12: a ring of " + length + " for nobody", () -> x.element(last, 0));
            Check.missing("12: it is not there", () -> x.order(last));
        }
        for (int length = 2; length <= 6; length++) {
            Taxmaze x = new Taxmaze();
            make(x, 0, Taxmaze.MONEY, 1);
            for (int number = 1; number < length; number++) {
                make(x, number, Taxmaze.ELEMENT, number - 1);
            }
            x.word(Taxmaze.ELEMENT, length - 1);
            Check.refused("12: a ring of " + length + " by a new formula", () -> x.element(0, 63));
            Check.same("12: the old one holds", x.elementOf(length - 1, 0, 0), 1);
        }
    }

    /** One that needs several is refused if any of them leads back to it, whichever is gone through first. */
    private static void ringsOfOneWay() {
        for (int way = 0; way < 3; way++) {
            Taxmaze x = new Taxmaze();
            for (int number = 0; number < 3; number++) {
                make(x, number, number == way ? Taxmaze.ELEMENT : Taxmaze.MONEY, number == way ? 3 : 7);
            }
            for (int number = 0; number < 3; number++) {
                x.word(Taxmaze.ELEMENT, number);
            }
            x.word(Taxmaze.PLUS, 0);
            x.word(Taxmaze.PLUS, 0);
            Check.refused("12: over the element " + way, () -> x.element(3, 63));
        }
        for (int way = 0; way < 3; way++) {
            Taxmaze x = new Taxmaze();
            make(x, 0, Taxmaze.ELEMENT, 1, Taxmaze.ELEMENT, 2, Taxmaze.PLUS, 0);
            make(x, 1, way == 1 ? Taxmaze.ELEMENT : Taxmaze.MONEY, 3);
            make(x, 2, way == 2 ? Taxmaze.ELEMENT : Taxmaze.MONEY, 3);
            x.word(Taxmaze.ELEMENT, 0);
            Check.thrown("12: over the element 0 and " + way, () -> x.element(3, 63), way == 0 ? "nothing thrown" : "IllegalStateException");
        }
    }

    /** The formula that is replaced does not count for what an element needs. */
    private static void ringsByNewFormulas() {
        Taxmaze x = new Taxmaze();
        make(x, 0, Taxmaze.MONEY, 1);
        make(x, 1, Taxmaze.ELEMENT, 0);
        make(x, 1, Taxmaze.MONEY, 2);
        make(x, 0, Taxmaze.ELEMENT, 1);
        Check.same("12: the other way round", x.elementOf(0, 0, 0), 2);
        make(x, 2, Taxmaze.ELEMENT, 0);
        make(x, 0, Taxmaze.MONEY, 3);
        make(x, 1, Taxmaze.ELEMENT, 2);
        Check.same("12: over two, once the first needs none", x.elementOf(1, 0, 0), 3);
        make(x, 1, Taxmaze.ELEMENT, 2, Taxmaze.ELEMENT, 0, Taxmaze.PLUS, 0);
        Check.same("12: one that is needed over two ways is no ring", x.elementOf(1, 0, 0), 6);
    }

    private static void longestChain() {
        Taxmaze x = new Taxmaze();
        for (int number = 0; number < 5; number++) {
            make(x, number, Taxmaze.ELEMENT, number + 1, Taxmaze.MONEY, 1, Taxmaze.PLUS, 0);
        }
        for (int number = 0; number < 5; number++) {
            Check.same("12: the last one is not there", x.elementOf(number, 0, 0), 5 - number);
        }
        Check.same("13: the fifth is first", x.order(0), 4);
        make(x, 5, Taxmaze.MONEY, 10);
        for (int number = 0; number < 6; number++) {
            Check.same("12: over all others", x.elementOf(number, 0, 0), 15 - number);
            Check.same("13: the last is first", x.order(number), 5 - number);
        }
    }

    /** "Always the lowest one that is behind all that it needs." */
    private static void lowestFirst() {
        Taxmaze x = new Taxmaze();
        for (int number = 0; number < 6; number++) {
            make(x, number, Taxmaze.MONEY, number);
        }
        order(x, 0, 1, 2, 3, 4, 5);
        make(x, 1, Taxmaze.ELEMENT, 4);
        order(x, 0, 2, 3, 4, 1, 5);
        make(x, 2, Taxmaze.ELEMENT, 5);
        order(x, 0, 3, 4, 1, 5, 2);
        make(x, 0, Taxmaze.ELEMENT, 1, Taxmaze.ELEMENT, 2, Taxmaze.PLUS, 0);
        order(x, 3, 4, 1, 5, 2, 0);
        make(x, 4, Taxmaze.ELEMENT, 2);
        order(x, 3, 5, 2, 4, 1, 0);
        make(x, 0, Taxmaze.MONEY, 0);
        order(x, 0, 3, 5, 2, 4, 1);
    }

    private static void order(Taxmaze x, int... due) {
        for (int place = 0; place < due.length; place++) {
            Check.same("13: the place " + place, x.order(place), due[place]);
        }
        Check.missing("13: behind the last one", () -> x.order(due.length));
    }

    /** "All are kept from -100000000 to 100000000." */
    private static void keptFromNumbers() {
        int[][] products = {{10000, 10000, MOST}, {10001, 10000, MOST}, {9999, 10000, 99990000}, {-10000, 10000, -MOST},
            {-10001, 10000, -MOST}, {-9999, 10000, -99990000}, {1000000, 1000000, MOST}, {1000000, -1000000, -MOST}, {-1000000, -1000000, MOST}};
        for (int[] one : products) {
            Check.same("12: the product of " + one[0] + " and " + one[1],
                valueOf(Taxmaze.MONEY, one[0], Taxmaze.MONEY, one[1], Taxmaze.TIMES, 0), one[2]);
        }
        Check.same("12: a sum at the bound", most(Taxmaze.MONEY, 0, Taxmaze.PLUS, 0), MOST);
        Check.same("12: a sum above it", most(Taxmaze.MONEY, 1, Taxmaze.PLUS, 0), MOST);
        Check.same("12: a sum below it", most(Taxmaze.MONEY, -1, Taxmaze.PLUS, 0), MOST - 1);
        Check.same("12: a difference above it", most(Taxmaze.MONEY, -1, Taxmaze.MINUS, 0), MOST);
        Check.same("12: thousandths above it", most(Taxmaze.MONEY, 1001, Taxmaze.PERMILLE, 0), MOST);
        Check.same("12: thousandths at it", most(Taxmaze.MONEY, 1000, Taxmaze.PERMILLE, 0), MOST);
        Check.same("12: thousandths below it", most(Taxmaze.MONEY, 999, Taxmaze.PERMILLE, 0), 99900000);
        Check.same("12: thousandths below the least", most(Taxmaze.MONEY, -1001, Taxmaze.PERMILLE, 0), -MOST);
        Check.same("12: thousandths at the least", most(Taxmaze.MONEY, -1000, Taxmaze.PERMILLE, 0), -MOST);
        Check.same("12: a sum below the least", least(Taxmaze.MONEY, -1, Taxmaze.PLUS, 0), -MOST);
        Check.same("12: a difference below the least", least(Taxmaze.MONEY, 1, Taxmaze.MINUS, 0), -MOST);
        Check.same("12: a difference above the least", least(Taxmaze.MONEY, -1, Taxmaze.MINUS, 0), 1 - MOST);
    }

    private static long most(int... words) {
        return bound(10000, words);
    }

    private static long least(int... words) {
        return bound(-10000, words);
    }

    private static long bound(int factor, int... words) {
        int[] all = new int[words.length + 6];
        int[] first = {Taxmaze.MONEY, factor, Taxmaze.MONEY, 10000, Taxmaze.TIMES, 0};
        System.arraycopy(first, 0, all, 0, 6);
        System.arraycopy(words, 0, all, 6, words.length);
        return valueOf(all);
    }

    /** Kept within the bounds at each word, and so for BASE; what an element comes to is kept too, the gross is not. */
    private static void keptOnTheWay() {
        Check.same("12: back from the bound", most(Taxmaze.MONEY, 1000000, Taxmaze.PLUS, 0, Taxmaze.MONEY, 1000000, Taxmaze.MINUS, 0), MOST - 1000000);
        Check.same("12: back from the least", least(Taxmaze.MONEY, 1000000, Taxmaze.MINUS, 0, Taxmaze.MONEY, 1000000, Taxmaze.PLUS, 0), 1000000 - MOST);
        Taxmaze x = new Taxmaze();
        x.contract(0, 0, 0, 719, true, 600, 1000000);
        make(x, 0, Taxmaze.BASE, 0, Taxmaze.MONEY, 1000000, Taxmaze.MINUS, 0);
        x.shift(0, 0, 0, 1440);
        x.shift(0, 1, 0, 1440);
        x.shift(0, 2, 0, 1440);
        Check.same("7: 70.5 hours and 40.5 of overtime", x.base(0, 0), 70500000 + 20250000);
        Check.same("22: the base below the bound", x.elementOf(0, 0, 0), 89750000);
        x.shift(0, 3, 0, 340);
        x.shift(0, 7, 0, 215);
        Check.same("7: 9.25 hours more", x.base(0, 0), MOST);
        Check.same("22: the base at the bound", x.elementOf(0, 0, 0), 99000000);
        x.shift(0, 8, 0, 60);
        Check.same("7: an hour more", x.base(0, 0), 101000000);
        Check.same("22: the base above the bound", x.elementOf(0, 0, 0), 99000000);
        Check.same("20: all in the gross", x.slip(0, 0, Taxmaze.GROSS), 200000000);
    }

    /** "Of the upper two": what is below them stays; the order counts for MINUS alone. */
    private static void upperTwo() {
        int[][] cases = {{Taxmaze.PLUS, 7, 3, 10}, {Taxmaze.MINUS, 7, 3, 4}, {Taxmaze.MINUS, 3, 7, -4}, {Taxmaze.TIMES, 7, -3, -21},
            {Taxmaze.PERMILLE, 500, 3, 2}, {Taxmaze.PERMILLE, 500, -3, -1}, {Taxmaze.LESSER, 7, 3, 3}, {Taxmaze.LESSER, 3, 7, 3},
            {Taxmaze.LESSER, -7, 3, -7}, {Taxmaze.GREATER, 7, 3, 7}, {Taxmaze.GREATER, 3, 7, 7}, {Taxmaze.GREATER, -7, -3, -3},
            {Taxmaze.LESSER, 5, 5, 5}, {Taxmaze.GREATER, 5, 5, 5}, {Taxmaze.TIMES, 0, 1000000, 0}};
        for (int[] one : cases) {
            String what = "12: the word " + one[0] + " of " + one[1] + " and " + one[2];
            Check.same(what, valueOf(Taxmaze.MONEY, one[1], Taxmaze.MONEY, one[2], one[0], 0), one[3]);
            Check.same(what + ", a million below them",
                valueOf(Taxmaze.MONEY, 1000000, Taxmaze.MONEY, one[1], Taxmaze.MONEY, one[2], one[0], 0, Taxmaze.PLUS, 0), 1000000 + one[3]);
        }
        Check.same("12: the greatest number of money", valueOf(Taxmaze.MONEY, 1000000), 1000000);
        Check.same("12: the least number of money", valueOf(Taxmaze.MONEY, -1000000), -1000000);
    }

    /** "The sum of 2 to the power of each person, 0 to 63"; an element is 0 for those that it is not for. */
    private static void peopleOfElements() {
        for (int people : new int[] {0, 1, 2, 4, 8, 16, 32, 21, 42, 62, 63}) {
            Taxmaze x = new Taxmaze();
            x.word(Taxmaze.MONEY, 100);
            x.element(0, people);
            x.word(Taxmaze.ELEMENT, 0);
            x.word(Taxmaze.MONEY, 1);
            x.word(Taxmaze.PLUS, 0);
            x.element(1, 63);
            int set = people;
            for (int person = 0; person < 6; person++) {
                int due = set % 2 * 100;
                set /= 2;
                Check.same("22: for the people " + people + ", person " + person, x.elementOf(0, person, 23), due);
                Check.same("22: what needs it, person " + person, x.elementOf(1, person, 23), due + 1);
                Check.same("20: the gross of both, person " + person, x.slip(person, 23, Taxmaze.GROSS), 2 * due + 1);
            }
        }
    }

    /** "All minutes that count in days of the month, added, by 60, rounded down." */
    private static void hours() {
        int[][] cases = {{59, 0}, {60, 1}, {119, 1}, {120, 2}, {360, 6}, {361, 5}};
        for (int[] one : cases) {
            Taxmaze x = new Taxmaze();
            x.contract(0, 0, 0, 719, true, 480, 0);
            x.shift(0, 29, 0, one[0]);
            make(x, 0, Taxmaze.HOURS, 0);
            Check.same("22: hours of " + one[0], x.elementOf(0, 0, 0), one[1]);
            Check.same("22: not in the next month", x.elementOf(0, 0, 1), 0);
        }
        Taxmaze x = new Taxmaze();
        x.contract(0, 0, 0, 29, true, 480, 0);
        x.contract(0, 1, 0, 719, false, 480, 0);
        x.contract(1, 1, 0, 719, true, 480, 0);
        make(x, 0, Taxmaze.HOURS, 0);
        x.shift(0, 29, 1409, 62);
        x.shift(1, 0, 0, 29);
        Check.same("22: half an hour and twenty-nine minutes, of two contracts", x.elementOf(0, 0, 0), 1);
        Check.same("22: behind the end of the contract", x.elementOf(0, 0, 1), 0);
        x.shift(1, 30, 0, 29);
        Check.same("22: with another one", x.elementOf(0, 0, 1), 1);
        Check.same("22: of nobody else", x.elementOf(0, 1, 0), 0);
    }

    private static void bases() {
        Taxmaze x = new Taxmaze();
        x.contract(0, 0, 0, 29, false, 480, 1000);
        x.contract(0, 1, 29, 59, false, 480, 3000);
        x.contract(1, 0, 0, 719, false, 480, 50000);
        x.bonus(0, 0, 0, 777);
        make(x, 0, Taxmaze.BASE, 0);
        Check.same("22: all bases of the person, no bonus", x.elementOf(0, 0, 0), 1100);
        Check.same("22: of the next month", x.elementOf(0, 0, 1), 3000);
        Check.same("22: of no contract", x.elementOf(0, 0, 2), 0);
        Check.same("20: with the bonus", x.slip(0, 0, Taxmaze.GROSS), 1100 + 1100 + 777);
    }

    private static void withoutContract() {
        Taxmaze x = new Taxmaze();
        make(x, 0, Taxmaze.BASE, 0, Taxmaze.HOURS, 0, Taxmaze.PLUS, 0, Taxmaze.MONEY, 5, Taxmaze.PLUS, 0);
        x.contract(0, 2, 0, 719, false, 480, 1000);
        Check.same("22: somebody without a contract", x.elementOf(0, 5, 23), 5);
        Check.same("21: in the place 0", x.slipIn(5, 23, 0, Taxmaze.GROSS), 5);
        Check.same("21: not in that of others", x.slipIn(5, 23, 2, Taxmaze.GROSS), 0);
        Check.same("21: theirs", x.slipIn(0, 23, 2, Taxmaze.GROSS), 2005);
    }

    /** "To the place of the person's contract with the lowest number that has a day in the month." */
    private static void placeOfElements() {
        int[][] cases = {{0, 719, 1}, {30, 59, 1}, {30, 30, 1}, {59, 59, 1}, {0, 30, 1}, {59, 719, 1}, {0, 29, 2}, {60, 719, 2}};
        for (int[] one : cases) {
            Taxmaze x = new Taxmaze();
            make(x, 0, Taxmaze.MONEY, 500);
            x.contract(4, 0, 0, 719, false, 480, 0);
            x.contract(0, 1, one[0], one[1], false, 480, 0);
            x.contract(0, 2, 0, 719, false, 480, 0);
            x.contract(0, 0, 0, 719, false, 480, 0);
            for (int place = 0; place < 3; place++) {
                Check.same("21: a contract from " + one[0] + " to " + one[1] + ", place " + place,
                    x.slipIn(0, 1, place, Taxmaze.GROSS), place == one[2] ? 500 : 0);
            }
        }
        Taxmaze x = new Taxmaze();
        make(x, 0, Taxmaze.MONEY, 500);
        x.contract(0, 2, 0, 29, true, 480, 1000);
        x.shift(0, 29, 1380, 120);
        Check.same("21: minutes behind the end are no day of it", x.slipIn(0, 1, 0, Taxmaze.GROSS), 500);
        Check.same("21: but are paid in its place", x.slipIn(0, 1, 2, Taxmaze.GROSS), 1000);
    }

    /** Promise 14: "in place of what was told", for each person, month and place. */
    private static void bonuses() {
        Taxmaze x = new Taxmaze();
        Check.same("14: the greatest", x.bonus(0, 0, 0, 10000000), 0);
        Check.same("14: the least", x.bonus(0, 0, 0, -10000000), 10000000);
        Check.same("20: a gross below 0", x.slip(0, 0, Taxmaze.GROSS), -10000000);
        Check.same("14: another person", x.bonus(1, 0, 0, 1), 0);
        Check.same("14: another month", x.bonus(0, 1, 0, 2), 0);
        Check.same("14: another place", x.bonus(0, 0, 1, 3), 0);
        Check.same("14: 0 is told too", x.bonus(0, 0, 0, 0), -10000000);
        Check.same("14: it was 0", x.bonus(0, 0, 0, 5), 0);
        Check.same("14: those of both places", x.slip(0, 0, Taxmaze.GROSS), 8);
        Check.same("14: those told besides", x.bonus(1, 0, 0, 0) + x.bonus(0, 1, 0, 0) * 10 + x.bonus(0, 0, 1, 0) * 100, 321);
    }
}
