/** Terms, GARNISHMENTS, ADVANCES: the last of a total, what is protected, ranks alike, what is left of advances. */
final class GarnishmentEdgesTest {
    private GarnishmentEdgesTest() {
    }

    static void run() {
        lastOfTotal();
        greatestTotal();
        part();
        protectedAmount();
        netBelowNothing();
        partOfWholeNet();
        ranks();
        sameRank();
        leftForNext();
        firstMonth();
        peopleApart();
        asItIsNow();
        advances();
        advanceAsMuch();
        advancesOfMonths();
        advanceBehindGarnishments();
        advanceNeverTaken();
    }

    private static Taxmaze withNets(int... nets) {
        Taxmaze x = new Taxmaze();
        for (int month = 0; month < nets.length; month++) {
            x.bonus(0, month, 0, nets[month]);
        }
        return x;
    }

    private static void takenUpTo(String what, Taxmaze x, int garnishment, int... due) {
        for (int month = 0; month < due.length; month++) {
            Check.same(what + ", up to the month " + month, x.takenBy(garnishment, month), due[month]);
        }
        Check.same(what + ", up to the last one", x.takenBy(garnishment, 23), due[due.length - 1]);
    }

    private static void payouts(String what, Taxmaze x, int... due) {
        for (int month = 0; month < due.length; month++) {
            Check.same(what + ", the payout of the month " + month, x.slip(0, month, Taxmaze.PAYOUT), due[month]);
        }
    }

    /** "What its total has left": the last of it, and nothing behind that. */
    private static void lastOfTotal() {
        int[][] totals = {{1, 1, 1, 1}, {999, 999, 999, 999}, {1000, 1000, 1000, 1000}, {1001, 1000, 1001, 1001}, {2000, 1000, 2000, 2000},
            {2999, 1000, 2000, 2999}, {3000, 1000, 2000, 3000}, {3001, 1000, 2000, 3000}};
        for (int[] one : totals) {
            Taxmaze x = withNets(1000, 1000, 1000);
            x.garnish(0, 0, 0, one[0], 1000, 0);
            takenUpTo("25: a total of " + one[0], x, 0, one[1], one[2], one[3]);
            payouts("25: a total of " + one[0], x, 1000 - one[1], 1000 - one[2] + one[1], 1000 - one[3] + one[2], 0);
        }
    }

    private static void greatestTotal() {
        Taxmaze x = new Taxmaze();
        for (int month = 0; month < 24; month++) {
            x.bonus(0, month, 0, 10000000);
        }
        x.garnish(0, 0, 9, 100000000, 1000, 0);
        Check.same("25: nine months", x.takenBy(0, 8), 90000000);
        Check.same("25: ten months", x.takenBy(0, 9), 100000000);
        Check.same("25: its total", x.takenBy(0, 10), 100000000);
        Check.same("25: to the end, over the year", x.takenBy(0, 23), 100000000);
        Check.same("25: the last month", x.slip(0, 23, Taxmaze.PAYOUT), 10000000);
    }

    /** "Its part of the net, rounded down." */
    private static void part() {
        int[][] cases = {{1, 999, 0}, {1, 1000, 1}, {1, 1001, 1}, {1, 1999, 1}, {999, 1000, 999}, {999, 1001, 999}, {1000, 1, 1}, {1000, 1001, 1001},
            {500, 1, 0}, {500, 3, 1}};
        for (int[] one : cases) {
            Taxmaze x = withNets(one[1]);
            x.garnish(0, 0, 0, 100000000, one[0], 0);
            takenUpTo("25: thousandths " + one[0] + " of " + one[1], x, 0, one[2]);
            Check.same("20: taken", x.slip(0, 0, Taxmaze.TAKEN), one[2]);
        }
    }

    /** "What is left of the net above the protected amount; nothing, if that is below 0." */
    private static void protectedAmount() {
        int[][] cases = {{0, 1000}, {1, 999}, {500, 500}, {999, 1}, {1000, 0}, {1001, 0}, {100000000, 0}};
        for (int[] one : cases) {
            Taxmaze x = withNets(1000, 10, 1000);
            x.garnish(0, 0, 0, 100000000, 1000, one[0]);
            Check.same("25: protected are " + one[0], x.takenBy(0, 0), one[1]);
            int ofTen = Math.max(0, 10 - one[0]);
            Check.same("25: of ten", x.takenBy(0, 1), one[1] + ofTen);
            Check.same("25: in the third month as in the first", x.takenBy(0, 2), 2 * one[1] + ofTen);
        }
        Taxmaze x = withNets(1000);
        x.garnish(0, 0, 0, 100000000, 300, 700);
        Check.same("25: both limits are alike", x.takenBy(0, 0), 300);
    }

    private static void netBelowNothing() {
        Taxmaze x = withNets(-1000, 0, 1, -1);
        x.garnish(0, 0, 0, 5000, 1000, 0);
        x.garnish(0, 0, 0, 5000, 500, 0);
        takenUpTo("25: a net below 0", x, 0, 0, 0, 1, 1);
        takenUpTo("25: half of it", x, 1, 0, 0, 0, 0);
        payouts("25: a net below 0", x, -1000, 0, 0, -1);
        for (int month = 0; month < 4; month++) {
            Check.same("25: what is taken", x.slip(0, month, Taxmaze.TAKEN), month == 2 ? 1 : 0);
        }
    }

    /** A part is of the net of the month, not of what is left behind those ahead. */
    private static void partOfWholeNet() {
        Taxmaze x = withNets(1000);
        x.garnish(0, 0, 0, 5000, 300, 0);
        x.garnish(0, 0, 1, 5000, 300, 0);
        x.garnish(0, 0, 2, 5000, 300, 0);
        x.garnish(0, 0, 3, 5000, 300, 0);
        Check.same("25: the first", x.takenBy(0, 0), 300);
        Check.same("25: the second", x.takenBy(1, 0), 300);
        Check.same("25: the third", x.takenBy(2, 0), 300);
        Check.same("25: the fourth, what is left", x.takenBy(3, 0), 100);
        payouts("25: nothing is left", x, 0);
    }

    /** "By rising ranks", in whatever order they were told. */
    private static void ranks() {
        int[][] orders = {{0, 1, 9}, {9, 1, 0}, {1, 9, 0}, {0, 9, 1}};
        for (int[] order : orders) {
            Taxmaze x = withNets(1000);
            for (int i = 0; i < 3; i++) {
                x.garnish(0, 0, order[i], 400, 1000, 0);
            }
            for (int i = 0; i < 3; i++) {
                Check.same("25: of the rank " + order[i], x.takenBy(i, 0), order[i] == 9 ? 200 : 400);
            }
        }
    }

    /** "Of the same rank as they were told." */
    private static void sameRank() {
        Taxmaze x = withNets(1000);
        for (int number = 0; number < 5; number++) {
            x.garnish(0, 0, 5, 300, 1000, 0);
        }
        x.garnish(0, 0, 4, 150, 1000, 0);
        int[] due = {300, 300, 250, 0, 0, 150};
        for (int number = 0; number < 6; number++) {
            Check.same("25: number " + number, x.takenBy(number, 0), due[number]);
        }
    }

    /** "What is left of the net, behind those ahead of it, above the protected amount", which is its own. */
    private static void leftForNext() {
        Taxmaze x = withNets(1000, 1000);
        x.garnish(0, 0, 0, 5000, 500, 800);
        x.garnish(0, 0, 1, 5000, 500, 800);
        x.garnish(0, 0, 2, 5000, 500, 799);
        x.garnish(0, 0, 3, 5000, 500, 0);
        takenUpTo("25: above 800", x, 0, 200, 400);
        takenUpTo("25: nothing is above 800", x, 1, 0, 0);
        takenUpTo("25: one is above 799", x, 2, 1, 2);
        takenUpTo("25: nothing is kept", x, 3, 500, 1000);
        Check.same("25: all of them", x.slip(0, 1, Taxmaze.TAKEN), 701);
        payouts("25: the rest", x, 299, 299);
    }

    private static void firstMonth() {
        for (int first : new int[] {0, 1, 11, 12, 22, 23}) {
            Taxmaze x = new Taxmaze();
            for (int month = 0; month < 24; month++) {
                x.bonus(0, month, 0, 100);
            }
            x.garnish(0, first, 0, 100000, 1000, 0);
            for (int month = 0; month < 24; month++) {
                Check.same("25: from the month " + first + ", up to " + month, x.takenBy(0, month), Math.max(0, 100 * (month - first + 1)));
            }
        }
    }

    private static void peopleApart() {
        Taxmaze x = withNets(1000);
        x.bonus(3, 0, 2, 500);
        x.garnish(3, 0, 0, 5000, 1000, 0);
        x.garnish(0, 0, 0, 5000, 100, 0);
        Check.same("25: of its own person", x.takenBy(0, 0), 500);
        Check.same("25: of the other one", x.takenBy(1, 0), 100);
        Check.same("25: taken of this one", x.slip(0, 0, Taxmaze.TAKEN), 100);
        Check.same("25: taken of that one", x.slip(3, 0, Taxmaze.TAKEN), 500);
        Check.same("25: of others nothing", x.slip(1, 0, Taxmaze.TAKEN), 0);
    }

    /** What a garnishment took in earlier months goes by what is told now, so the months behind it change too. */
    private static void asItIsNow() {
        Taxmaze x = withNets(1000, 1000, 1000);
        x.garnish(0, 0, 0, 1500, 1000, 0);
        takenUpTo("26: ahead", x, 0, 1000, 1500, 1500);
        x.close();
        x.bonus(0, 0, 0, 200);
        takenUpTo("26: less in the first month", x, 0, 200, 1200, 1500);
        x.garnish(0, 1, 0, 1500, 1000, 0);
        takenUpTo("26: one behind it", x, 1, 0, 0, 700);
        x.bonus(0, 0, 0, 2000);
        takenUpTo("26: all in the first month", x, 0, 1500, 1500, 1500);
        takenUpTo("26: so the other has more", x, 1, 0, 1000, 1500);
    }

    /** Promise 27: the least, the greatest, and the sum of all of a person. */
    private static void advances() {
        Taxmaze x = withNets(1000);
        Check.same("27: the least", x.advance(0, 1), 1);
        payouts("27: a cent less", x, 999, 0);
        Check.same("27: the greatest", x.advance(0, 1000000), 1000001);
        payouts("27: nothing is left", x, 0, 0);
        Check.same("27: of somebody else", x.advance(1, 1000000), 1000000);
        x.close();
        Check.same("27: in a later month, added", x.advance(0, 1), 1000002);
        Taxmaze y = withNets(1000);
        y.advance(0, 300);
        Check.same("27: two of a month", y.advance(0, 200), 500);
        payouts("27: both are taken", y, 500, 0);
        Check.same("27: no payments", x.payments(), 0);
        Check.same("33: not what is owed, that is 0", x.owed(0), 0);
    }

    /** "As far as there is something." */
    private static void advanceAsMuch() {
        int[][] cases = {{999, 1, 1000}, {1000, 0, 1000}, {1001, 0, 999}, {2000, 0, 0}, {2001, 0, 0}};
        for (int[] one : cases) {
            Taxmaze x = withNets(1000, 1000);
            x.advance(0, one[0]);
            payouts("27: an advance of " + one[0], x, one[1], one[2]);
        }
        Taxmaze x = withNets(-1000, 0, -1, 500, 500);
        x.advance(0, 600);
        payouts("27: months with nothing", x, -1000, 0, -1, 0, 400);
    }

    /** "In its month and each later one, what is left of all advances": never ahead of its month. */
    private static void advancesOfMonths() {
        Taxmaze x = withNets(100, 100, 100, 100, 100);
        x.close();
        x.close();
        x.advance(0, 150);
        payouts("27: from the month 2 on", x, 100, 100, 0, 50, 100);
        x.close();
        x.advance(0, 80);
        payouts("27: with one of the month 3", x, 100, 100, 0, 0, 70);
        x.bonus(0, 2, 0, 1000);
        payouts("27: more in a closed month", x, 100, 100, 850, 20, 100);
    }

    /** "Behind garnishments": they take of the net as if there was no advance, and the advance has what they leave. */
    private static void advanceBehindGarnishments() {
        Taxmaze x = withNets(1000, 1000);
        x.advance(0, 700);
        x.garnish(0, 0, 0, 900, 500, 200);
        takenUpTo("25: as without an advance", x, 0, 500, 900);
        payouts("27: five hundred, then two hundred", x, 0, 400);
        Check.same("20: an advance is not taken by garnishments", x.slip(0, 0, Taxmaze.TAKEN), 500);
        Check.same("20: it is not of the net", x.slip(0, 0, Taxmaze.NET), 1000);
    }

    private static void advanceNeverTaken() {
        Taxmaze x = withNets(0);
        x.bonus(0, 22, 0, 50);
        for (int month = 0; month < 23; month++) {
            x.close();
        }
        x.advance(0, 100);
        x.bonus(0, 23, 0, 60);
        Check.same("27: all of the last month", x.slip(0, 23, Taxmaze.PAYOUT), 0);
        Check.same("27: not of the one ahead", x.slip(0, 22, Taxmaze.PAYOUT), 50);
        Check.same("29: nobody is paid", x.close(), 0);
        Check.same("33: what is left of it is not owed", x.owed(0), 0);
    }
}
