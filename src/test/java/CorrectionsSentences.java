/** The sentences about what is owed and corrected: promises 15 and 16, and the paragraph 'Corrections'. */
final class CorrectionsSentences {
    private static final Class<IllegalArgumentException> ARGUMENT = IllegalArgumentException.class;
    private static final String CORRECTION = "Whenever a second that passes makes the number that is shown a multiple"
            + " of 60, and after a strike that this brings, the number is made greater by what is owed, but at most the"
            + " bound, or less by what is owed to go back, but at most the bound; this is not owed any more.";

    private CorrectionsSentences() {
    }

    static void test(Sentences s) {
        s.terms(15, "Some seconds are owed, 0 at first, more than 0 if the clock is to go forward.",
                CorrectionsSentences::owed);
        s.terms(16, "The bound, 5 at first, is from 0 to 30.", CorrectionsSentences::bounds);
        s.terms(10, CORRECTION, CorrectionsSentences::atMultiplesOf60);
        s.terms(10, CORRECTION, CorrectionsSentences::onlyWhenASecondPasses);
        s.terms(10, CORRECTION, CorrectionsSentences::wheneverItComesAgain);
        s.terms(10, CORRECTION, CorrectionsSentences::afterTheStrike);
        s.terms(16, CORRECTION, CorrectionsSentences::atMostTheBound);
        s.terms(15, CORRECTION, CorrectionsSentences::notOwedAnyMore);
        s.promise(15, "Adds seconds to those that are owed.", CorrectionsSentences::addsToOwed);
        s.promise(15, "`seconds`: the seconds, -600 to 600", CorrectionsSentences::secondsToOwe);
        s.promise(15, "Returns the seconds that are owed after the call.", CorrectionsSentences::owedAfterTheCall);
        s.promise(15, "Throws `IllegalArgumentException` if the seconds are out of range, or more than 3600 would be"
                + " owed, forward or back", CorrectionsSentences::tooMuchOwed);
        s.promise(16, "Sets the bound.", CorrectionsSentences::setsTheBound);
        s.promise(16, "`seconds`: the bound", CorrectionsSentences::secondsOfTheBound);
        s.promise(16, "Returns the bound before.", CorrectionsSentences::boundBefore);
        s.promise(16, "Throws `IllegalArgumentException` if the bound is out of range",
                CorrectionsSentences::wrongBound);
    }

    private static void owed() {
        MinsterClock clock = new MinsterClock();
        Check.same("at first", clock.owe(0), 0);
        Check.same("nothing owed, nothing corrected", Clocks.shownBehind(clock, 60), 60);
        MinsterClock forward = Clocks.owing(1);
        Check.same("1 owed goes forward", Clocks.shownBehind(forward, 60), 61);
        MinsterClock back = Clocks.owing(-1);
        Check.same("-1 owed goes back", Clocks.shownBehind(back, 60), 59);
    }

    private static void bounds() {
        MinsterClock first = new MinsterClock();
        Check.same("5 at first", first.setBound(5), 5);
        Check.same("5 at first, as it works", Clocks.shownBehind(Clocks.owing(6), 60), 65);
        for (int bound = 0; bound <= 30; bound++) {
            MinsterClock clock = Clocks.owing(600);
            clock.setBound(bound);
            Check.same("the bound " + bound, Clocks.shownBehind(clock, 60), 60 + bound);
            Check.same("it is kept", clock.setBound(0), bound);
        }
        for (int wrong : new int[] {-1, 31}) {
            Check.fails("the bound " + wrong, ARGUMENT, () -> first.setBound(wrong));
        }
    }

    private static void atMultiplesOf60() {
        for (int minute : new int[] {60, 120, 900, 3600, 86400}) {
            MinsterClock clock = Clocks.at(minute - 2);
            clock.owe(5);
            Check.same("one before " + minute, Clocks.shownBehind(clock, 1), minute - 1);
            Check.same("not yet " + minute, clock.owe(0), 5);
            Check.same("at " + minute, Clocks.shownBehind(clock, 1), minute + 5);
            Check.same("done at " + minute, clock.owe(0), 0);
        }
        MinsterClock clock = Clocks.owing(12);
        // 60 becomes 65; 55 seconds on 120 becomes 125, 55 seconds on 180 becomes 182; 58 seconds on it is 240.
        Check.same("within one call, one before", Clocks.shownBehind(clock, 60 + 55 + 54), 179);
        Check.same("within one call", Clocks.shownBehind(clock, 1), 182);
        Check.same("nothing left", Clocks.shownBehind(clock, 58), 240);
        MinsterClock long9 = Clocks.owing(5);
        long9.setBeat(9, 1);
        Check.same("within a beat: 6 beats are 54", Clocks.shownBehind(long9, 6), 54);
        Check.same("within a beat: 60 becomes 65, and 3 more", Clocks.shownBehind(long9, 1), 68);
    }

    private static void onlyWhenASecondPasses() {
        MinsterClock clock = Clocks.at(60);
        clock.owe(5);
        clock.setBound(30);
        Check.same("60 is shown, but no second passes", clock.shown(), 60);
        clock.setBeat(1, 20);
        Check.same("nor by a part of one", Clocks.shownBehind(clock, 19), 60);
        Check.same("the next second makes it 61", Clocks.shownBehind(clock, 1), 61);
        Check.same("all is still owed", clock.owe(0), 5);
        MinsterClock first = Clocks.owing(5);
        Check.same("the number 0 at first was made by no second", Clocks.shownBehind(first, 1), 1);
        // A correction by as much as 30 never comes to a multiple of 60 itself.
        MinsterClock most = Clocks.owing(600);
        most.setBound(30);
        Check.same("once for a minute", Clocks.shownBehind(most, 60), 90);
        Check.same("and again for the next", Clocks.shownBehind(most, 30), 150);
    }

    private static void wheneverItComesAgain() {
        MinsterClock clock = Clocks.owing(-12);
        Check.same("60 for the first time", Clocks.shownBehind(clock, 60), 55);
        Check.same("59 again", Clocks.shownBehind(clock, 4), 59);
        Check.same("60 for the second time", Clocks.shownBehind(clock, 1), 55);
        Check.same("60 for the third time", Clocks.shownBehind(clock, 5), 58);
        Check.same("60 for the fourth time", Clocks.shownBehind(clock, 2), 60);
        Check.same("nothing left", Clocks.shownBehind(clock, 1), 61);
        MinsterClock one = Clocks.owing(-12);
        Check.same("the same in one call, one before", Clocks.shownBehind(one, 60 + 5 + 5 + 1), 59);
        Check.same("the same in one call", Clocks.shownBehind(one, 1), 60);
    }

    private static void afterTheStrike() {
        MinsterClock back = Clocks.at(3599);
        back.setSilence(0, 1);
        back.owe(-5);
        Check.same("1:00 strikes as 1, which is not silent", back.pass(1), 1);
        Check.same("and goes back behind it", Clocks.time(back), "0:59");
        MinsterClock silent = Clocks.at(3599);
        silent.setSilence(1, 2);
        silent.owe(-5);
        Check.same("1:00 is silent", silent.pass(1), 0);
        Check.same("and goes back all the same", silent.shown(), 3595);
        MinsterClock forward = Clocks.at(899);
        forward.owe(5);
        Check.same("0:15 strikes", forward.pass(1), 1);
        Check.same("and goes forward", forward.shown(), 905);
        Check.same("struck as the mark 1", forward.markAt(0), 1);
        MinsterClock none = Clocks.at(59);
        none.owe(5);
        Check.same("where nothing strikes", none.pass(1), 0);
        Check.same("it is corrected as well", none.shown(), 65);
        MinsterClock off = Clocks.at(899);
        off.setQuarters(false);
        off.owe(5);
        Check.same("a quarter while they are off", off.pass(1), 0);
        Check.same("it is corrected as well", off.shown(), 905);
    }

    private static void atMostTheBound() {
        // The bound, what is owed, what is shown for 60, and what is owed then.
        int[][] rows = {{5, 4, 64, 0}, {5, 5, 65, 0}, {5, 6, 65, 1}, {5, -4, 56, 0}, {5, -5, 55, 0}, {5, -6, 55, -1},
            {0, 1, 60, 1}, {0, -1, 60, -1}, {0, 0, 60, 0}, {1, 1, 61, 0}, {1, -1, 59, 0}, {1, 2, 61, 1},
            {1, -2, 59, -1}, {30, 29, 89, 0}, {30, 30, 90, 0}, {30, 31, 90, 1}, {30, -29, 31, 0}, {30, -30, 30, 0},
            {30, -31, 30, -1}, {30, 3600, 90, 3570}, {30, -3600, 30, -3570}, {0, 3600, 60, 3600}};
        for (int[] row : rows) {
            MinsterClock clock = Clocks.owing(row[1]);
            clock.setBound(row[0]);
            String told = "the bound " + row[0] + ", owed " + row[1];
            Check.same(told + ", one before", Clocks.shownBehind(clock, 59), 59);
            Check.same(told, Clocks.shownBehind(clock, 1), row[2]);
            Check.same(told + ", left", clock.owe(0), row[3]);
        }
    }

    private static void notOwedAnyMore() {
        MinsterClock forward = Clocks.owing(3600);
        forward.setBound(30);
        // 60 seconds to the first correction and 30 to each of the 119 others.
        Check.same("3600 forward, one before the last", Clocks.shownBehind(forward, 60 + 119 * 30 - 1), 7199);
        Check.same("30 left", forward.owe(0), 30);
        Check.same("3600 forward", Clocks.shownBehind(forward, 1), 7230);
        Check.same("nothing left", forward.owe(0), 0);
        Check.same("and no more", Clocks.shownBehind(forward, 30), 7260);
        MinsterClock back = Clocks.owing(-3600);
        back.setBound(30);
        Check.same("3600 back, one before the last", Clocks.shownBehind(back, 60 + 119 * 30 - 1), 59);
        Check.same("30 left", back.owe(0), -30);
        Check.same("3600 back", Clocks.shownBehind(back, 1), 30);
        Check.same("nothing left", back.owe(0), 0);
        Check.same("and no more", Clocks.shownBehind(back, 30), 60);
        MinsterClock turned = Clocks.owing(7);
        turned.pass(60);
        Check.same("2 are left of 7, so -3", turned.owe(-5), -3);
        Check.same("back now", Clocks.shownBehind(turned, 55), 117);
        Check.same("nothing left", turned.owe(0), 0);
    }

    private static void addsToOwed() {
        MinsterClock clock = new MinsterClock();
        clock.setBound(30);
        Check.same("7", clock.owe(7), 7);
        Check.same("and 3", clock.owe(3), 10);
        Check.same("and -12", clock.owe(-12), -2);
        Check.same("nothing is shown of it yet", clock.shown(), 0);
        Check.same("all together are corrected, 60 - 2", Clocks.shownBehind(clock, 60), 58);
        Check.same("new ones begin at 0", clock.owe(4), 4);
        Check.same("60 comes again, and 4 more", Clocks.shownBehind(clock, 2), 64);
        MinsterClock left = Clocks.owing(9);
        left.pass(60);
        Check.same("4 are left of 9, and 1", left.owe(1), 5);
    }

    private static void secondsToOwe() {
        for (int most : new int[] {600, -600, 599, -599, 0, 1, -1}) {
            Check.same("owe(" + most + ")", new MinsterClock().owe(most), most);
        }
        for (int wrong : new int[] {601, -601, Integer.MAX_VALUE, Integer.MIN_VALUE}) {
            Twins.refuses("owe(" + wrong + ")", Clocks::live, ARGUMENT, clock -> clock.owe(wrong));
        }
        // What would be owed then is no excuse for seconds that are out of range.
        Check.fails("owe(601) of -600", ARGUMENT, () -> Clocks.owing(-600).owe(601));
        Check.fails("owe(-601) of 600", ARGUMENT, () -> Clocks.owing(600).owe(-601));
    }

    private static void owedAfterTheCall() {
        MinsterClock clock = new MinsterClock();
        Check.same("owe(0) at first", clock.owe(0), 0);
        Check.same("600", clock.owe(600), 600);
        Check.same("600 - 600", clock.owe(-600), 0);
        Check.same("0 - 1", clock.owe(-1), -1);
        clock.pass(60);
        Check.same("what is not owed any more", clock.owe(0), 0);
    }

    private static void tooMuchOwed() {
        Check.same("3000 + 600", Clocks.owing(3000).owe(600), 3600);
        Check.same("3001 + 599", Clocks.owing(3001).owe(599), 3600);
        Check.same("-3000 - 600", Clocks.owing(-3000).owe(-600), -3600);
        Check.same("3600 + 0", Clocks.owing(3600).owe(0), 3600);
        Check.same("-3600 + 600", Clocks.owing(-3600).owe(600), -3000);
        // What is owed, and the least that makes it too much.
        int[][] rows = {{3600, 1}, {3599, 2}, {3001, 600}, {-3600, -1}, {-3599, -2}, {-3001, -600}};
        for (int[] row : rows) {
            Check.fails(row[0] + " and " + row[1], ARGUMENT, () -> Clocks.owing(row[0]).owe(row[1]));
            Check.same("one less", Clocks.owing(row[0]).owe(row[1] - Integer.signum(row[1])),
                    Integer.signum(row[1]) * 3600);
        }
        Twins.refuses("owe(1) of 3600", CorrectionsSentences::owes3600, ARGUMENT, clock -> clock.owe(1));
        Twins.refuses("owe(601) of 3600", CorrectionsSentences::owes3600, ARGUMENT, clock -> clock.owe(601));
        MinsterClock paid = Clocks.owing(3600);
        paid.pass(60);
        Check.fails("5 are paid, 6 are too much", ARGUMENT, () -> paid.owe(6));
        Check.same("5 are not", paid.owe(5), 3600);
    }

    private static void owes3600(MinsterClock clock) {
        for (int call = 0; call < 6; call++) {
            clock.owe(600);
        }
    }

    private static void setsTheBound() {
        MinsterClock clock = Clocks.owing(100);
        Check.same("the bound 5 at first", Clocks.shownBehind(clock, 60), 65);
        clock.setBound(20);
        Check.same("20 from now on", Clocks.shownBehind(clock, 55), 140);
        Check.same("it stays", Clocks.shownBehind(clock, 40), 200);
        clock.setBound(0);
        Check.same("0 from now on", Clocks.shownBehind(clock, 40), 240);
        Check.same("it pays nothing itself", clock.owe(0), 100 - 5 - 20 - 20);
        clock.setBound(30);
        clock.setBound(10);
        Check.same("the latest one counts", Clocks.shownBehind(clock, 60), 310);
        Check.same("another clock has its own", new MinsterClock().setBound(1), 5);
    }

    private static void secondsOfTheBound() {
        for (int seconds = 0; seconds <= 30; seconds++) {
            MinsterClock forward = Clocks.owing(31);
            MinsterClock back = Clocks.owing(-31);
            forward.setBound(seconds);
            back.setBound(seconds);
            Check.same("the bound " + seconds + ", forward", Clocks.shownBehind(forward, 60), 60 + seconds);
            Check.same("the bound " + seconds + ", back", Clocks.shownBehind(back, 60), 60 - seconds);
        }
    }

    private static void boundBefore() {
        MinsterClock clock = new MinsterClock();
        Check.same("5 at first", clock.setBound(0), 5);
        Check.same("0", clock.setBound(30), 0);
        Check.same("30", clock.setBound(30), 30);
        Check.fails("one that is refused", ARGUMENT, () -> clock.setBound(31));
        Check.same("is not the one before", clock.setBound(1), 30);
    }

    private static void wrongBound() {
        for (int wrong : new int[] {-1, 31, -5, Integer.MIN_VALUE, Integer.MAX_VALUE}) {
            Twins.refuses("setBound(" + wrong + ")", Clocks::live, ARGUMENT, clock -> clock.setBound(wrong));
        }
        MinsterClock clock = new MinsterClock();
        Check.same("the bound 0", clock.setBound(0), 5);
        Check.same("the bound 30", clock.setBound(30), 0);
    }
}
