/** Terms, CLOSING, FILINGS: nothing to pay, the last month, earlier months whose sums are as they were. */
final class ClosingEdgesTest {
    private static final int BILLION = 1000000000;

    private ClosingEdgesTest() {
    }

    static void run() {
        notAboveNothing();
        byRisingPeople();
        allUpToIt();
        whatCameBack();
        lastMonth();
        closedForAll();
        filedAsItIsNow();
        sumsAsTheyWere();
        oneOfBoth();
        eachClosing();
        lastFiling();
        openMonthIsNoCorrection();
        everyMonth();
    }

    /** "Nothing if that is not above 0." */
    private static void notAboveNothing() {
        int[][] cases = {{-1, 0}, {0, 0}, {1, 1}};
        for (int[] one : cases) {
            Taxmaze x = new Taxmaze();
            x.bonus(0, 0, 0, one[0]);
            Check.same("33: owed", x.owed(0), one[0]);
            Check.same("29: with " + one[0], x.close(), one[1]);
            Check.same("30: with " + one[0], x.payments(), one[1]);
            Check.same("28: the next month is open", x.open(), 1);
            Check.same("33: what is left", x.owed(0), one[0] - one[1]);
        }
        Taxmaze x = new Taxmaze();
        x.bonus(0, 0, 0, -100);
        x.bonus(0, 1, 0, 100);
        x.bonus(0, 2, 0, 1);
        Check.same("29: below 0", x.close(), 0);
        Check.same("29: exactly nothing", x.close(), 0);
        Check.same("29: a cent", x.close(), 1);
        Check.same("31: a cent", x.payment(0, 2), 1);
    }

    private static void byRisingPeople() {
        Taxmaze x = new Taxmaze();
        for (int person = 5; person >= 0; person--) {
            x.bonus(person, 0, person % 3, 10 * person + 1);
        }
        x.bonus(3, 0, 0, 0);
        Check.same("29: all but one", x.close(), 5);
        x.bonus(3, 0, 0, 5);
        x.bonus(0, 1, 0, 7);
        Check.same("29: two of the next month", x.close(), 2);
        long[][] due = {{0, 0, 1}, {1, 0, 11}, {2, 0, 21}, {4, 0, 41}, {5, 0, 51}, {0, 1, 7}, {3, 1, 5}};
        Check.same("30: all of them", x.payments(), due.length);
        for (int payment = 0; payment < due.length; payment++) {
            for (int what = 0; what < 3; what++) {
                Check.same("31: number " + what + " of the payment " + payment, x.payment(payment, what), due[payment][what]);
            }
            Check.same("31: it did not come back", x.payment(payment, 3), 0);
        }
    }

    /** "All payouts up to it, added, as they are now, less all payments that were made": no later month counts. */
    private static void allUpToIt() {
        Taxmaze x = new Taxmaze();
        for (int month = 0; month < 24; month++) {
            x.bonus(2, month, 0, 100 + month);
        }
        for (int month = 0; month < 23; month++) {
            Check.same("33: of the month " + month, x.owed(2), 100 + month);
            x.close();
            Check.same("31: paid in the month " + month, x.payment(month, 2) * 100 + x.payment(month, 1), 100 * (100 + month) + month);
        }
        x.bonus(2, 0, 0, 90);
        Check.same("33: ten too much of the first month", x.owed(2), 123 - 10);
        x.bonus(2, 0, 0, -9000);
        Check.same("33: far too much", x.owed(2), 123 - 9100);
        Check.same("29: nothing is paid", x.close(), 0);
        Check.same("33: it is owed by the person still", x.owed(2), 123 - 9100);
    }

    /** "Less all payments that were made and did not come back." */
    private static void whatCameBack() {
        Taxmaze x = new Taxmaze();
        x.bonus(0, 0, 0, 100);
        x.bonus(1, 0, 0, 1000);
        x.close();
        x.bonus(0, 1, 0, 20);
        x.close();
        Check.same("32: the first", x.comeBack(0), 100);
        Check.same("31: it came back", x.payment(0, 3), 1);
        Check.same("31: what else is told of it stays", x.payment(0, 0) * 10000 + x.payment(0, 1) * 1000 + x.payment(0, 2), 100);
        Check.same("33: owed again", x.owed(0), 100);
        Check.same("33: to nobody else", x.owed(1), 0);
        Check.same("32: the third too", x.comeBack(2), 20);
        Check.same("33: both", x.owed(0), 120);
        Check.same("31: the second did not", x.payment(1, 3), 0);
        Check.same("29: it is paid as one", x.close(), 1);
        Check.same("31: of both", x.payment(3, 2), 120);
        Check.same("32: that comes back as well", x.comeBack(3), 120);
        x.bonus(0, 0, 0, -20);
        Check.same("33: as it is now", x.owed(0), 0);
        Check.same("29: nothing", x.close(), 0);
        Check.refused("32: the first, again", () -> x.comeBack(0));
        Check.refused("32: the last, again", () -> x.comeBack(3));
        Check.same("32: the second", x.comeBack(1), 1000);
        Check.same("30: four", x.payments(), 4);
    }

    /** "24 if there is none"; "without an open one by all 24 months". */
    private static void lastMonth() {
        Taxmaze x = new Taxmaze();
        x.bonus(0, 22, 0, 100);
        x.bonus(0, 23, 0, 1000);
        x.bracket(0, 0, 0, BILLION, 100);
        for (int month = 0; month < 22; month++) {
            Check.same("28: open", x.open(), month);
            Check.same("29: nobody", x.close(), 0);
        }
        Check.same("33: of the month 22", x.owed(0), 91);
        Check.same("29: the month 22", x.close(), 1);
        Check.same("28: the last one", x.open(), 23);
        Check.same("33: of the last month", x.owed(0), 899);
        Check.same("34: it is not filed yet", x.filed(0, 23, true), 0);
        Check.same("29: the month 23", x.close(), 1);
        Check.same("31: in the closing of which", x.payment(1, 1), 23);
        Check.same("34: it is filed", x.filed(0, 23, true), 101);
        Check.same("28: none", x.open(), 24);
        Check.same("33: nothing", x.owed(0), 0);
        x.bonus(0, 23, 0, 0);
        x.bonus(0, 0, 0, 200);
        Check.same("33: by all 24 months", x.owed(0), 180 + 91 - 1 - 91 - 899);
        Check.refused("29: no more", () -> x.close());
        Check.refused("27: nor an advance", () -> x.advance(0, 1));
        Check.same("34: nor filed any more", x.filed(0, 23, true), 101);
        Check.same("35: nor corrected", x.corrections(0, 0), 0);
        Check.same("32: but it can come back", x.comeBack(1), 899);
        Check.same("33: then it is owed", x.owed(0), 179);
        Check.refused("29: no more still", () -> x.close());
        Check.same("30: two", x.payments(), 2);
    }

    /** "For each place all taxes, and all contributions, of each month": of all people. */
    private static void closedForAll() {
        Taxmaze x = new Taxmaze();
        for (int place = 0; place < 3; place++) {
            x.contribution(place, 0, 100, 100000000);
            x.bracket(place, 0, 0, BILLION, 100);
            for (int person = 0; person < 6; person++) {
                x.bonus(person, 0, place, 1000 * (place + 1) * (person + 1));
            }
        }
        x.close();
        for (int place = 0; place < 3; place++) {
            Check.same("34: taxes of the place " + place, x.filed(place, 0, true), 90 * 21 * (place + 1));
            Check.same("34: contributions of the place " + place, x.filed(place, 0, false), 100 * 21 * (place + 1));
            Check.same("34: nothing of the next month", x.filed(place, 1, true) + x.filed(place, 1, false), 0);
            Check.same("35: none", x.corrections(place, 0), 0);
        }
    }

    private static Taxmaze withTax() {
        Taxmaze x = new Taxmaze();
        x.contribution(0, 0, 100, 100000000);
        x.bracket(0, 0, 0, BILLION, 100);
        x.bonus(0, 0, 0, 1000);
        x.bonus(1, 0, 0, 2000);
        return x;
    }

    private static void filed(String what, Taxmaze x, int month, int taxes, int contributions, int corrections) {
        Check.same(what + ": taxes of the month " + month, x.filed(0, month, true), taxes);
        Check.same(what + ": contributions of the month " + month, x.filed(0, month, false), contributions);
        Check.same(what + ": corrections of the month " + month, x.corrections(0, month), corrections);
    }

    /** What is filed is as it is when the month is closed; what is told later counts with the next closing. */
    private static void filedAsItIsNow() {
        Taxmaze x = withTax();
        filed("34: ahead of it", x, 0, 0, 0, 0);
        x.close();
        filed("34: closed", x, 0, 270, 300, 0);
        x.bonus(0, 0, 0, 2000);
        filed("34: told later", x, 0, 270, 300, 0);
        x.close();
        filed("34: corrected", x, 0, 360, 400, 1);
        filed("34: the second month", x, 1, 0, 0, 0);
    }

    /** "If one of both is not what was filed last": the sums count, not whose they are. */
    private static void sumsAsTheyWere() {
        Taxmaze x = withTax();
        x.close();
        x.bonus(0, 0, 0, 2000);
        x.bonus(1, 0, 0, 1000);
        x.close();
        filed("35: two people have changed", x, 0, 270, 300, 0);
        x.bonus(2, 0, 1, 5000);
        x.close();
        filed("35: another place", x, 0, 270, 300, 0);
        Check.same("35: where nothing is due", x.corrections(1, 0), 0);
        x.bonus(0, 0, 0, 0);
        x.bonus(0, 0, 0, 2000);
        x.close();
        filed("35: there and back", x, 0, 270, 300, 0);
    }

    private static void oneOfBoth() {
        Taxmaze x = withTax();
        x.close();
        x.state(0, 0, 1);
        x.close();
        filed("35: the taxes alone", x, 0, 180, 300, 1);
        Taxmaze y = new Taxmaze();
        y.contribution(0, 0, 100, 100000000);
        y.bonus(0, 0, 0, 3000);
        y.close();
        y.contribution(0, 0, 50, 100000000);
        y.close();
        filed("35: the contributions alone", y, 0, 0, 150, 1);
        Taxmaze z = withTax();
        z.close();
        z.contribution(0, 0, 0, 100000000);
        z.close();
        filed("35: both are one correction", z, 0, 300, 0, 1);
    }

    private static void eachClosing() {
        Taxmaze x = withTax();
        x.close();
        for (int round = 1; round <= 22; round++) {
            x.bonus(0, 0, 0, round % 2 == 0 ? 1000 : 0);
            x.close();
            filed("35: there and back, round " + round, x, 0, round % 2 == 0 ? 270 : 180, round % 2 == 0 ? 300 : 200, round);
        }
        x.close();
        filed("35: not once more", x, 0, 270, 300, 22);
        Check.same("28: the last one is closed", x.open(), 24);
    }

    /** "Not what was filed last": what was filed ahead of that does not count. */
    private static void lastFiling() {
        Taxmaze x = withTax();
        x.close();
        x.bonus(0, 0, 0, 5000);
        x.close();
        x.close();
        filed("35: once", x, 0, 630, 700, 1);
        x.bonus(0, 0, 0, 1000);
        x.close();
        filed("35: as it was at first, again a correction", x, 0, 270, 300, 2);
    }

    private static void openMonthIsNoCorrection() {
        Taxmaze x = withTax();
        x.bonus(0, 1, 0, 500);
        x.close();
        x.bonus(0, 1, 0, 700);
        x.close();
        filed("35: the month itself", x, 1, 63, 70, 0);
        x.bonus(0, 1, 0, 800);
        x.close();
        filed("35: an earlier one", x, 1, 72, 80, 1);
        filed("35: the month ahead of it", x, 0, 270, 300, 0);
    }

    /** A change of the first month changes the taxes of later ones: each closed one is looked at, and corrected if it differs. */
    private static void everyMonth() {
        Taxmaze x = new Taxmaze();
        x.bracket(0, 0, 0, 12000, 0);
        x.bracket(0, 0, 0, BILLION, 500);
        x.bonus(0, 0, 0, 2500);
        for (int month = 0; month < 4; month++) {
            x.close();
        }
        int[] ahead = {750, -500, -250, 0};
        for (int month = 0; month < 4; month++) {
            filed("34: ahead", x, month, ahead[month], 0, 0);
        }
        x.bonus(0, 0, 0, 3500);
        x.close();
        int[] behind = {1250, -500, -500, -250, 0};
        int[] corrected = {1, 0, 1, 1, 0};
        for (int month = 0; month < 5; month++) {
            filed("35: behind", x, month, behind[month], 0, corrected[month]);
        }
    }
}
