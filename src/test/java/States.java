/** Objects of which much was told, for tests that go over all calls. */
final class States {
    /** The most calls that one of them has had. */
    static final int MOST_CALLS = 160;

    private States() {
    }

    /** Something of each kind, and room for more of it; three contracts, two elements, two garnishments, two months closed. */
    static Taxmaze usual() {
        Taxmaze x = new Taxmaze();
        x.contract(0, 1, 30, 99, true, 480, 1000);
        x.contract(0, 0, 0, 719, false, 480, 300000);
        x.contract(3, 2, 10, 400, true, 60, 2000);
        x.shift(0, 40, 0, 1440);
        x.shift(0, 60, 480, 600);
        x.shift(1, 10, 100, 500);
        x.shift(2, 20, 1400, 100);
        x.leaveRule(15, 40, 3);
        x.leave(0, 61);
        x.leave(2, 95);
        x.word(Taxmaze.MONEY, 1000);
        x.element(0, 63);
        x.word(Taxmaze.ELEMENT, 0);
        x.word(Taxmaze.HOURS, 0);
        x.word(Taxmaze.PLUS, 0);
        x.element(1, 9);
        x.word(Taxmaze.MONEY, 7);
        x.word(Taxmaze.MONEY, 8);
        x.bonus(0, 0, 0, 50000);
        x.bonus(3, 1, 1, 20000);
        x.contribution(0, 0, 100, 5000000);
        x.contribution(1, 0, 50, 1000000);
        x.bracket(1, 0, 0, 1000000, 100);
        x.bracket(1, 0, 0, 2000000, 200);
        x.bracket(2, 0, 0, 1000000000, 150);
        x.state(3, 1, 1);
        x.pension(0, 0, 40);
        x.garnish(0, 0, 3, 40000, 100, 1000);
        x.garnish(3, 1, 0, 500000, 300, 0);
        x.advance(0, 20000);
        x.close();
        x.comeBack(2);
        x.close();
        return x;
    }

    /** As much of each kind as there may be: nothing that has an end can be told any more. */
    static Taxmaze full() {
        Taxmaze x = new Taxmaze();
        x.contract(0, 1, 30, 99, true, 480, 1000);
        for (int number = 1; number < 10; number++) {
            x.contract(number % 6, number % 3, 0, 719, number % 2 == 0, 60 * number, 1000 * number);
        }
        for (int told = 0; told < 40; told++) {
            x.shift(told % 10, 31 + told, 30 * told, 300 + 5 * told);
        }
        x.leaveRule(25, 40, 3);
        for (int told = 0; told < 30; told++) {
            x.leave(told % 10, 40 + told);
        }
        for (int number = 0; number < 6; number++) {
            x.word(Taxmaze.MONEY, 10000 + number);
            x.element(number, 63 - number);
            x.bonus(number, 1, number % 3, 20000 + number);
        }
        for (int words = 0; words < 10; words++) {
            x.word(Taxmaze.MONEY, words);
        }
        for (int number = 0; number < 4; number++) {
            x.bracket(0, 0, 3, 1000 * (number + 1), 100 * number);
        }
        x.contribution(0, 0, 100, 5000000);
        x.bracket(1, 0, 0, 1000000000, 100);
        x.state(3, 1, 1);
        x.pension(0, 0, 40);
        for (int number = 0; number < 6; number++) {
            x.garnish(number, 1, 3, 40000, 100, 1000);
        }
        x.advance(0, 20000);
        for (int month = 0; month < 24; month++) {
            x.close();
        }
        x.comeBack(0);
        return x;
    }
}
