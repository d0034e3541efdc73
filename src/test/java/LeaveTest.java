/** Promises 8 to 10: leave that accrues, is carried over, ends and is taken. */
final class LeaveTest {
    private LeaveTest() {
    }

    static void run() {
        rule();
        taking();
        earlierDaysFirst();
        sameDayAsTold();
        paying();
        mostLeave();
        left();
        carrying();
        splitting();
        whoAccrues();
    }

    private static Taxmaze withHours(int rate, int carry, int term) {
        Taxmaze x = new Taxmaze();
        x.contract(0, 0, 0, 719, true, 480, 1000);
        x.leaveRule(rate, carry, term);
        return x;
    }

    private static void rule() {
        Taxmaze x = withHours(10, 20, 2);
        Check.unfit("8: rate -1", () -> x.leaveRule(-1, 0, 1));
        Check.unfit("8: rate 51", () -> x.leaveRule(51, 0, 1));
        Check.unfit("8: carry -1", () -> x.leaveRule(0, -1, 1));
        Check.unfit("8: carry 501", () -> x.leaveRule(0, 501, 1));
        Check.unfit("8: term 0", () -> x.leaveRule(0, 0, 0));
        Check.unfit("8: term 13", () -> x.leaveRule(0, 0, 13));
        Check.same("8: nothing changed", x.leaveLeft(0, 390), 30);
        x.leaveRule(50, 500, 12);
        Check.same("8: for all months", x.leaveLeft(0, 60), 100);
        Check.same("8: all is carried", x.leaveLeft(0, 360), 500);
        Check.same("8: and never ends", x.leaveLeft(0, 719), 1050);
        x.leaveRule(0, 0, 1);
        Check.same("8: nothing accrues", x.leaveLeft(0, 719), 0);
    }

    private static void taking() {
        Taxmaze x = withHours(10, 0, 1);
        Check.missing("9: contract 1", () -> x.leave(1, 0));
        Check.missing("9: contract -1", () -> x.leave(-1, 0));
        Check.missing("9: day 720", () -> x.leave(0, 720));
        Check.missing("9: day -1", () -> x.leave(0, -1));
        x.contract(0, 0, 30, 40, true, 480, 1000);
        Check.missing("9: ahead of the contract", () -> x.leave(1, 29));
        Check.missing("9: behind the contract", () -> x.leave(1, 41));
        Check.same("9: not yet there at the end of the month", x.leave(0, 29), false);
        Check.same("9: nothing is paid", x.base(0, 0), 0);
        Check.same("9: there on the next day", x.leave(0, 30), true);
        Check.same("9: it is paid", x.base(0, 1), 8000);
        Check.same("9: no more that month", x.leave(0, 59), false);
        Check.same("9: it is not paid twice", x.base(0, 1), 8000);
        Check.same("9: over another contract of the person neither", x.leave(1, 40), false);
        x.leaveRule(9, 0, 1);
        Check.same("9: nine tenths are not enough", x.base(0, 1), 0);
        Check.same("9: and are left", x.leaveLeft(0, 60), 18);
    }

    private static void earlierDaysFirst() {
        Taxmaze x = withHours(5, 0, 1);
        Check.same("9: fifteen tenths", x.leave(0, 100), true);
        Check.same("9: paid", x.base(0, 3), 8000);
        Check.same("9: an earlier day", x.leave(0, 60), true);
        Check.same("9: takes it from the later", x.base(0, 3), 0);
        Check.same("9: and is paid", x.base(0, 2), 8000);
        Check.same("9: five are left", x.leaveLeft(0, 101), 5);
        x.leaveRule(10, 0, 1);
        Check.same("9: by a new rule both are paid", x.base(0, 3) + x.base(0, 2), 16000);
    }

    private static void sameDayAsTold() {
        for (int first = 0; first < 2; first++) {
            Taxmaze x = withHours(10, 0, 1);
            x.contract(0, 1, 0, 719, false, 480, 30000);
            Check.same("9: told first", x.leave(first, 30), true);
            Check.same("9: told behind it", x.leave(1 - first, 30), false);
            Check.same("9: by hours", x.base(0, 1), first == 0 ? 8000 : 0);
            Check.same("9: by months neither more nor less", x.base(1, 1), 30000);
            Check.same("9: by months it takes too", x.leaveLeft(0, 31), 0);
        }
        Taxmaze x = withHours(10, 0, 1);
        x.leave(0, 60);
        Check.same("9: the same day twice", x.leave(0, 60), true);
        Check.same("9: both are paid", x.base(0, 2), 16000);
        Check.same("9: thrice is too much", x.leave(0, 60), false);
    }

    private static void paying() {
        Taxmaze x = new Taxmaze();
        x.contract(0, 0, 0, 719, true, 61, 30);
        x.leaveRule(50, 0, 1);
        x.leave(0, 40);
        Check.same("9: half a cent is rounded up", x.base(0, 1), 31);
        x.leave(0, 41);
        Check.same("9: each by itself", x.base(0, 1), 62);
        x.pay(0, 41, 600);
        Check.same("9: by the pay of that day", x.base(0, 1), 31 + 610);
        x.pay(0, 42, 6000);
        Check.same("9: not of a later one", x.base(0, 1), 31 + 610);
        Check.same("9: a slip has it", x.slip(0, 1, Taxmaze.GROSS), 641);
        Check.same("9: hours do not", x.minutes(0, 40), 0);
    }

    private static void mostLeave() {
        Taxmaze x = withHours(0, 0, 1);
        x.contract(1, 0, 0, 719, true, 480, 1000);
        for (int told = 0; told < 30; told++) {
            Check.same("9: thirty, though none is paid", x.leave(told % 2, told), false);
        }
        Check.refused("9: thirty-one", () -> x.leave(0, 100));
        Check.missing("9: the day ahead of that", () -> x.leave(0, 720));
    }

    private static void left() {
        Taxmaze x = withHours(10, 0, 1);
        Check.missing("10: person -1", () -> x.leaveLeft(-1, 0));
        Check.missing("10: person 6", () -> x.leaveLeft(6, 0));
        Check.missing("10: day -1", () -> x.leaveLeft(0, -1));
        Check.missing("10: day 720", () -> x.leaveLeft(0, 720));
        Check.same("10: the first day", x.leaveLeft(0, 0), 0);
        Check.same("10: the last day of the month", x.leaveLeft(0, 29), 0);
        Check.same("10: the next day", x.leaveLeft(0, 30), 10);
        x.leave(0, 30);
        Check.same("10: ahead of what is taken that day", x.leaveLeft(0, 30), 10);
        Check.same("10: behind it", x.leaveLeft(0, 31), 0);
        Check.same("10: somebody else", x.leaveLeft(1, 31), 0);
    }

    private static void carrying() {
        Taxmaze x = withHours(10, 35, 3);
        Check.same("10: at the end of the year", x.leaveLeft(0, 359), 110);
        Check.same("10: carried", x.leaveLeft(0, 360), 35);
        Check.same("10: taken of what was carried", x.leave(0, 361), true);
        Check.same("10: left", x.leaveLeft(0, 362), 25);
        Check.same("10: the next month", x.leaveLeft(0, 390), 35);
        x.leave(0, 391);
        Check.same("10: ahead of the term", x.leaveLeft(0, 449), 35);
        Check.same("10: what was carried is lost", x.leaveLeft(0, 450), 30);
        x.leaveRule(10, 500, 3);
        Check.same("10: less than the carry is carried whole", x.leaveLeft(0, 360), 120);
        x.leaveRule(10, 500, 1);
        Check.same("10: the last day of the shortest term", x.leaveLeft(0, 389), 110);
        Check.same("10: behind the shortest term", x.leaveLeft(0, 390), 10);
        x.leave(0, 355);
        x.leaveRule(10, 0, 1);
        Check.same("10: nothing is carried", x.leaveLeft(0, 360), 0);
    }

    private static void splitting() {
        Taxmaze x = withHours(10, 5, 12);
        Check.same("10: five carried", x.leaveLeft(0, 360), 5);
        Check.same("10: five are not enough", x.leave(0, 360), false);
        Check.same("10: five and ten are", x.leave(0, 390), true);
        Check.same("10: five are left", x.leaveLeft(0, 391), 5);
        x.leaveRule(10, 5, 2);
        Check.same("10: they are not those carried", x.leaveLeft(0, 420), 15);
        x.leaveRule(10, 5, 12);
        Check.same("10: to the end", x.leaveLeft(0, 719), 105);
    }

    private static void whoAccrues() {
        Taxmaze x = new Taxmaze();
        x.leaveRule(10, 500, 12);
        x.contract(0, 0, 0, 28, true, 480, 1000);
        Check.same("10: no contract on the last day", x.leaveLeft(0, 30), 0);
        x.contract(0, 0, 29, 29, true, 480, 1000);
        Check.same("10: one on the last day", x.leaveLeft(0, 30), 10);
        x.contract(0, 1, 0, 59, false, 480, 1000);
        Check.same("10: two on a last day count once", x.leaveLeft(0, 30), 10);
        Check.same("10: the next month's", x.leaveLeft(0, 60), 20);
        Check.same("10: no more behind the contracts", x.leaveLeft(0, 719), 20);
        x.contract(1, 0, 30, 59, true, 480, 1000);
        Check.same("10: not ahead of the contract", x.leaveLeft(1, 59), 0);
        Check.same("10: by its last day", x.leaveLeft(1, 60), 10);
    }
}
