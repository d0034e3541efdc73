/** Terms, LEAVE: month ends, the months 12 and 12 plus the term, what was carried first, several on one day. */
final class LeaveEdgesTest {
    private LeaveEdgesTest() {
    }

    static void run() {
        nothingAtFirst();
        endOfMonths();
        contractOnLastDay();
        month12();
        carryAtItsEnds();
        terms();
        ratesAtTheirEnds();
        carriedFirst();
        tenTenths();
        risingDays();
        ofOneDay();
        byMonths();
        paidThen();
        unpaidTakesNothing();
        severalOfMonth();
        lastMonth();
        asItIsNow();
        leftOnDay();
    }

    private static Taxmaze withRule(int rate, int carry, int term) {
        Taxmaze x = new Taxmaze();
        x.contract(0, 0, 0, 719, true, 60, 1000);
        x.leaveRule(rate, carry, term);
        return x;
    }

    private static void left(String what, Taxmaze x, int... daysAndDue) {
        for (int i = 0; i < daysAndDue.length; i += 2) {
            Check.same(what + ", day " + daysAndDue[i], x.leaveLeft(0, daysAndDue[i]), daysAndDue[i + 1]);
        }
    }

    /** "Rate, carry and term are 0 at first." */
    private static void nothingAtFirst() {
        Taxmaze x = new Taxmaze();
        x.contract(0, 0, 0, 719, true, 60, 1000);
        left("10: no rate", x, 0, 0, 30, 0, 359, 0, 360, 0, 719, 0);
        Check.same("9: none is paid", x.leave(0, 400), false);
        Check.same("9: the last day", x.leave(0, 719), false);
        Check.same("7: none was", x.base(0, 13) + x.base(0, 23), 0);
    }

    /** "At the end of each month the rate is added"; "what is added is there from its next day on". */
    private static void endOfMonths() {
        Taxmaze x = withRule(10, 500, 12);
        left("10: month by month", x, 0, 0, 29, 0, 30, 10, 59, 10, 60, 20, 329, 100, 330, 110, 359, 110, 360, 120, 389, 120, 390, 130,
            689, 220, 690, 230, 719, 230);
        Check.same("9: the last day of the month is too early", x.leave(0, 29), false);
        Check.same("9: the next one is not", x.leave(0, 30), true);
    }

    /** "In whose last day a person has a contract." */
    private static void contractOnLastDay() {
        int[][] cases = {{0, 28, 0}, {0, 29, 10}, {29, 29, 10}, {30, 58, 0}, {30, 59, 10}, {29, 30, 10}, {59, 89, 20}, {0, 0, 0}, {58, 59, 10}};
        for (int[] one : cases) {
            Taxmaze x = new Taxmaze();
            x.leaveRule(10, 500, 12);
            x.contract(0, 0, one[0], one[1], true, 60, 1000);
            Check.same("10: a contract from " + one[0] + " to " + one[1], x.leaveLeft(0, 719), one[2]);
            Check.same("10: of somebody else", x.leaveLeft(1, 719), 0);
        }
        Taxmaze x = withRule(10, 500, 12);
        x.contract(0, 1, 0, 59, true, 60, 1000);
        left("10: two contracts on a last day", x, 30, 10, 60, 20, 90, 30);
        Taxmaze y = new Taxmaze();
        y.leaveRule(10, 500, 12);
        y.contract(0, 0, 719, 719, true, 60, 1000);
        left("10: the end of the last month has no next day", y, 719, 0);
    }

    /** "When the month 12 begins, all above the carry is lost, and the rest is carried": with what the month 11 added. */
    private static void month12() {
        left("10: above the carry", withRule(10, 115, 12), 359, 110, 360, 115, 390, 125);
        left("10: as much as the carry", withRule(10, 120, 12), 359, 110, 360, 120, 390, 130);
        left("10: below the carry", withRule(10, 121, 12), 359, 110, 360, 120, 390, 130);
        left("10: what the month 11 added is carried, and ends", withRule(10, 500, 1), 360, 120, 389, 120, 390, 10);
        left("10: what the month 12 added does not end", withRule(10, 500, 2), 390, 130, 419, 130, 420, 20);
        Taxmaze x = withRule(10, 115, 12);
        x.leave(0, 359);
        left("10: taken on the last day of the year", x, 359, 110, 360, 110, 361, 110);
        Taxmaze y = withRule(10, 115, 12);
        y.leave(0, 360);
        left("10: taken on the first day of the next", y, 359, 110, 360, 115, 361, 105);
    }

    private static void carryAtItsEnds() {
        left("8: carry 0", withRule(10, 0, 12), 359, 110, 360, 0, 389, 0, 390, 10, 719, 110);
        left("8: carry 1", withRule(10, 1, 12), 360, 1, 390, 11, 719, 111);
        left("8: carry 500 of 600", withRule(50, 500, 12), 359, 550, 360, 500, 719, 1050);
        left("8: carry 499", withRule(50, 499, 12), 360, 499);
    }

    /** "When the month 12 plus the term begins, what is left of that is lost": with the term 12 there is no such month. */
    private static void terms() {
        left("8: term 1", withRule(10, 30, 1), 360, 30, 389, 30, 390, 10, 420, 20);
        left("8: term 2", withRule(10, 30, 2), 389, 30, 390, 40, 419, 40, 420, 20);
        left("8: term 11", withRule(10, 30, 11), 360, 30, 689, 130, 690, 110, 719, 110);
        left("8: term 12", withRule(10, 30, 12), 360, 30, 689, 130, 690, 140, 719, 140);
        Taxmaze x = withRule(10, 30, 2);
        x.leave(0, 400);
        left("10: two thirds of it are left, and lost", x, 401, 30, 419, 30, 420, 20);
        Taxmaze y = withRule(10, 30, 2);
        y.leave(0, 400);
        y.leave(0, 400);
        y.leave(0, 400);
        left("10: all of it is taken", y, 401, 10, 420, 20);
        Check.same("9: the last day of the term", withRule(1, 10, 1).leave(0, 389), true);
        Check.same("9: the day behind it", withRule(1, 10, 1).leave(0, 390), false);
    }

    private static void ratesAtTheirEnds() {
        left("8: rate 0", withRule(0, 500, 12), 30, 0, 360, 0, 719, 0);
        left("8: rate 1", withRule(1, 500, 12), 30, 1, 300, 10, 360, 12, 719, 23);
        left("8: rate 50", withRule(50, 500, 12), 30, 50, 330, 550, 360, 500, 390, 550);
        Taxmaze x = withRule(1, 500, 12);
        Check.same("9: nine months", x.leave(0, 299), false);
        Check.same("9: ten months", x.leave(0, 300), true);
    }

    /** "It takes 10 tenths, of what was carried first." */
    private static void carriedFirst() {
        Taxmaze x = withRule(10, 10, 2);
        Check.same("9: of ten carried and ten of the month 12", x.leave(0, 395), true);
        left("10: nothing carried is left to be lost", x, 396, 10, 419, 10, 420, 20);
        Taxmaze y = withRule(10, 15, 2);
        Check.same("9: of fifteen carried", y.leave(0, 360), true);
        Check.same("9: of five, and five of the month 12", y.leave(0, 390), true);
        left("10: five of the month 12 are left", y, 391, 5, 419, 5, 420, 15);
        Taxmaze z = withRule(10, 25, 2);
        Check.same("9: of twenty-five carried", z.leave(0, 390), true);
        left("10: fifteen of them are lost", z, 391, 25, 419, 25, 420, 20);
    }

    private static void tenTenths() {
        Check.same("9: nine tenths", withRule(9, 0, 1).leave(0, 30), false);
        Check.same("9: ten tenths", withRule(10, 0, 1).leave(0, 30), true);
        Check.same("9: nine carried", withRule(10, 9, 12).leave(0, 389), false);
        Check.same("9: ten carried", withRule(10, 10, 12).leave(0, 389), true);
        Taxmaze x = withRule(19, 0, 1);
        Check.same("9: nineteen tenths", x.leave(0, 30), true);
        Check.same("9: nine of them", x.leave(0, 31), false);
        left("10: are left", x, 32, 9, 60, 28);
    }

    /** "By rising days", in whatever order they were told. */
    private static void risingDays() {
        Taxmaze x = withRule(10, 0, 1);
        Check.same("9: the latest", x.leave(0, 50), true);
        Check.same("9: ahead of it", x.leave(0, 40), true);
        Check.same("9: between them", x.leave(0, 45), false);
        Check.same("9: the earliest", x.leave(0, 30), true);
        Check.same("7: one of the four is paid", x.base(0, 1), 1000);
        left("10: it is the earliest one", x, 30, 10, 31, 0, 59, 0, 60, 10);
        Check.same("9: of the next month", x.leave(0, 60), true);
        left("10: by months", x, 60, 10, 61, 0);
    }

    /** "Of the same day as they were told", whatever contract they are of. */
    private static void ofOneDay() {
        int[][] orders = {{0, 1, 2}, {2, 1, 0}, {1, 2, 0}};
        for (int[] order : orders) {
            Taxmaze x = withRule(20, 0, 1);
            x.contract(0, 1, 0, 719, true, 60, 2000);
            x.contract(0, 2, 0, 719, true, 60, 3000);
            Check.same("9: told first", x.leave(order[0], 30), true);
            Check.same("9: told second", x.leave(order[1], 30), true);
            Check.same("9: told third", x.leave(order[2], 30), false);
            for (int contract = 0; contract < 3; contract++) {
                Check.same("7: contract " + contract, x.base(contract, 1), contract == order[2] ? 0 : 1000 * (contract + 1));
            }
            Check.same("9: a day ahead", x.leave(order[2], 29), false);
            Check.same("7: takes nothing from them", x.base(order[0], 1), 1000 * (order[0] + 1));
        }
    }

    /** "Nothing by months, which it does not lessen either." */
    private static void byMonths() {
        Taxmaze x = new Taxmaze();
        x.contract(0, 0, 0, 719, false, 60, 3000);
        x.leaveRule(10, 0, 1);
        Check.same("9: it takes something", x.leave(0, 30), true);
        left("10: ten tenths", x, 30, 10, 31, 0);
        Check.same("7: neither more nor less", x.base(0, 1), 3000);
        Check.same("9: it takes nothing", x.leave(0, 31), false);
        Check.same("7: nor less for that", x.base(0, 1), 3000);
    }

    /** "As the norm of the contract times the pay of that day, divided by 60", in the month of the day; no minutes. */
    private static void paidThen() {
        Taxmaze x = new Taxmaze();
        x.contract(0, 2, 0, 719, true, 480, 1000);
        x.leaveRule(10, 500, 12);
        x.pay(0, 60, 2000);
        x.pay(0, 61, 4000);
        Check.same("9: a day", x.leave(0, 59), true);
        Check.same("9: the next", x.leave(0, 60), true);
        Check.same("7: by the pay of the first", x.base(0, 1), 8000);
        Check.same("7: by the pay of the second", x.base(0, 2), 16000);
        Check.same("21: in the place of the contract", x.slipIn(0, 2, 2, Taxmaze.GROSS), 16000);
        Check.same("5: no minutes", x.minutes(0, 60), 0);
        Check.same("6: no overtime", x.overtime(0, 8), 0);
        x.word(Taxmaze.BASE, 0);
        x.element(0, 63);
        x.word(Taxmaze.HOURS, 0);
        x.element(1, 63);
        Check.same("22: of the bases", x.elementOf(0, 0, 2), 16000);
        Check.same("22: not of the hours", x.elementOf(1, 0, 2), 0);
    }

    /** "Otherwise nothing is taken or paid": a later one may be. */
    private static void unpaidTakesNothing() {
        Taxmaze x = withRule(6, 0, 1);
        Check.same("9: six tenths", x.leave(0, 40), false);
        left("10: are left", x, 41, 6, 60, 12);
        Check.same("9: twelve", x.leave(0, 60), true);
        Check.same("7: the first is not paid", x.base(0, 1), 0);
        Check.same("7: the second is", x.base(0, 2), 1000);
        left("10: two are left", x, 61, 2, 90, 8);
    }

    /** Each day is rounded by itself, and all of a month are added. */
    private static void severalOfMonth() {
        Taxmaze x = new Taxmaze();
        x.contract(0, 0, 0, 719, true, 90, 1);
        x.leaveRule(50, 0, 1);
        for (int taken = 1; taken <= 5; taken++) {
            Check.same("9: of fifty tenths, day " + taken, x.leave(0, 30 + taken), true);
            Check.same("7: one and a half cents each", x.base(0, 1), 2 * taken);
        }
        Check.same("9: the sixth", x.leave(0, 36), false);
        Check.same("7: is not paid", x.base(0, 1), 10);
    }

    /** Leave of the last day of all; asking again, or telling something else, pays it no second time. */
    private static void lastMonth() {
        Taxmaze x = withRule(10, 0, 1);
        Check.same("7: nothing ahead of it", x.base(0, 23), 0);
        Check.same("9: the last day", x.leave(0, 719), true);
        Check.same("7: it is paid", x.base(0, 23), 1000);
        x.bonus(0, 0, 0, 5);
        Check.same("7: once", x.base(0, 23), 1000);
        x.pay(0, 700, 2000);
        Check.same("7: by what is told now", x.base(0, 23), 2000);
        Check.same("20: and so in the gross", x.slip(0, 23, Taxmaze.GROSS), 2000);
        Check.same("9: the first day of the last month", x.leave(0, 690), true);
        Check.same("20: by its pay", x.slip(0, 23, Taxmaze.GROSS), 3000);
    }

    /** All goes by what is told now: contracts and rules told later pay for leave told earlier. */
    private static void asItIsNow() {
        Taxmaze x = new Taxmaze();
        x.contract(0, 0, 30, 58, true, 60, 1000);
        x.leaveRule(10, 0, 1);
        Check.same("9: no contract on a last day", x.leave(0, 40), false);
        Check.same("7: not paid", x.base(0, 1), 0);
        x.contract(0, 1, 29, 29, false, 60, 0);
        Check.same("7: paid by a contract told later", x.base(0, 1), 1000);
        Check.same("20: in the gross too", x.slip(0, 1, Taxmaze.GROSS), 1000);
        x.leaveRule(9, 0, 1);
        Check.same("7: not paid by another rule", x.base(0, 1), 0);
        x.contract(1, 0, 0, 719, true, 60, 1000);
        x.leaveRule(10, 0, 1);
        Check.same("9: leave of somebody else", x.leave(2, 30), true);
        Check.same("7: takes nothing of this", x.base(0, 1), 1000);
    }

    /** Promise 10: "behind what is added or lost then, ahead of what is taken". */
    private static void leftOnDay() {
        Taxmaze x = withRule(10, 20, 1);
        x.leave(0, 30);
        x.leave(0, 360);
        x.leave(0, 390);
        left("10: when a day begins", x, 29, 0, 30, 10, 31, 0, 359, 100, 360, 20, 361, 10, 389, 10, 390, 10, 391, 0);
        x.leave(0, 719);
        left("10: the last day", x, 719, 100);
    }
}
