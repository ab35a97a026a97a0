/** The sentences about beats, hands and corrections: promises 9 to 16, and their paragraphs of the terms. */
final class GoingSentences {
    private static final Class<IllegalArgumentException> ARGUMENT = IllegalArgumentException.class;
    private static final String CORRECTION = "Whenever a second that passes makes the number that is shown a multiple"
            + " of 60, and after a strike that this brings, the number is made greater by what is owed, but at most the"
            + " bound, or less by what is owed to go back, but at most the bound; this is not owed any more.";
    private static final String BEAT = "The seconds that have passed are the sum of these fractions, of which only"
            + " whole seconds move the hands; the rest is kept, and is lost when the fraction is set.";

    private GoingSentences() {
    }

    static void test(Sentences s) {
        s.whatItIs(12, "An object is used for at most 512 calls after it has been made; what later calls answer is"
                + " free.", GoingSentences::farthestIn512Calls);
        s.terms(11, "Time passes by beats; wheels, hands, bells and pins are asked.", GoingSentences::asked);
        s.terms(9, "A beat takes a fraction of a second, whose numerator and denominator are from 1 to 20.",
                GoingSentences::fractions);
        s.terms(10, BEAT, GoingSentences::wholeSeconds);
        s.terms(10, BEAT, GoingSentences::restIsKept);
        s.terms(9, BEAT, GoingSentences::restIsLost);
        s.terms(12, "The clock shows a number of seconds since its beginning, 0 at first.",
                GoingSentences::sinceBeginning);
        s.terms(12, "Each whole second that passes makes it greater by 1.", GoingSentences::greaterBy1);
        s.terms(13, "The hour, the minute and the second are found from it as usual; a day has 86400 seconds.",
                GoingSentences::timesOfTheDay);
        s.terms(15, "Some seconds are owed, 0 at first, more than 0 if the clock is to go forward.",
                GoingSentences::owed);
        s.terms(16, "The bound, 5 at first, is from 0 to 30.", GoingSentences::bounds);
        testCorrections(s);
        testPromises(s);
    }

    private static void testCorrections(Sentences s) {
        s.terms(10, CORRECTION, GoingSentences::atMultiplesOf60);
        s.terms(10, CORRECTION, GoingSentences::onlyWhenASecondPasses);
        s.terms(10, CORRECTION, GoingSentences::wheneverItComesAgain);
        s.terms(10, CORRECTION, GoingSentences::afterTheStrike);
        s.terms(16, CORRECTION, GoingSentences::atMostTheBound);
        s.terms(15, CORRECTION, GoingSentences::notOwedAnyMore);
    }

    private static void testPromises(Sentences s) {
        s.promise(9, "Returns the numerator before.", GoingSentences::numeratorBefore);
        s.promise(9, "Throws `IllegalArgumentException` if a number is out of range", GoingSentences::wrongFraction);
        s.promise(10, "`beats`: the number of beats, 1 to 5000", GoingSentences::beatsThatPass);
        s.promise(10, "Returns the number of strokes.", GoingSentences::strokesThatPass);
        s.promise(10, "Throws `IllegalArgumentException` if the number is out of range", GoingSentences::wrongBeats);
        s.promise(11, "Returns the number of beats so far.", GoingSentences::beatsSoFar);
        s.promise(11, "Returns the number of beats.", GoingSentences::beatsAndNotSeconds);
        s.promise(12, "Returns the number of seconds.", GoingSentences::secondsShown);
        s.promise(13, "Returns the hour, 0 to 23.", GoingSentences::hours);
        s.promise(14, "Returns the minute, 0 to 59.", GoingSentences::minutes);
        s.promise(15, "`seconds`: the seconds, -600 to 600", GoingSentences::secondsToOwe);
        s.promise(15, "Returns the seconds that are owed after the call.", GoingSentences::owedAfterTheCall);
        s.promise(15, "Throws `IllegalArgumentException` if the seconds are out of range, or more than 3600 would be"
                + " owed, forward or back", GoingSentences::tooMuchOwed);
        s.promise(16, "Returns the bound before.", GoingSentences::boundBefore);
        s.promise(16, "Throws `IllegalArgumentException` if the bound is out of range", GoingSentences::wrongBound);
    }

    private static void farthestIn512Calls() {
        MinsterClock clock = Clocks.byMarks();
        for (int call = 2; call <= 505; call++) {
            clock.pass(5000);
        }
        // 504 calls of 5000 beats of 20 seconds.
        Check.same("call 506, shown", clock.shown(), 50400000);
        Check.same("call 507, beats", clock.beats(), 2520000L);
        Check.same("call 508, strikes: a mark each 900 seconds", clock.strikes(), 56000);
        Check.same("call 509, the latest mark", clock.markAt(0), 56000);
        // 583 days of 300 strokes, and 28800 seconds, 8 hours: 8 * 6 at the quarters and 1 to 8.
        Check.same("call 510, the hours' bell", clock.strokes(0), 583 * 156 + 36);
        Check.same("call 511, the year behind 583 days", clock.year(), 2001);
        Check.same("call 512, isOnce", clock.isOnce(), true);
    }

    private static void asked() {
        Twins.keeps("all that is asked", Clocks::live, clock -> {
            clock.moved(1);
            clock.movedAhead(2, 5000);
            clock.movedByBeats(2, 5000);
            clock.strokesAhead(5000);
            clock.strokesByBeats(5000);
            clock.hour();
            clock.minute();
            clock.year();
            clock.isLeap(2000);
            clock.numberOf(2000, 1, 1);
            clock.numberByCounting(2000, 1, 1);
            clock.pins(0);
            clock.bellAt(0, 0);
            clock.strokes(0);
            clock.markAt(0);
            clock.struckShare();
            clock.isOnce();
        });
        MinsterClock clock = new MinsterClock();
        int answers = clock.owe(600) + clock.setBound(30) + clock.addWheel(6, 6);
        Check.same("calls that set let no time pass", answers, 606);
        Check.same("no beat", clock.beats(), 0L);
        Check.same("no second", clock.shown(), 0);
    }

    private static void fractions() {
        // The numerator, the denominator, the beats, and the seconds that they take.
        int[][] rows = {{1, 1, 1, 1}, {1, 20, 19, 0}, {1, 20, 20, 1}, {20, 1, 1, 20}, {20, 20, 1, 1}, {2, 20, 9, 0},
            {2, 20, 10, 1}, {19, 1, 1, 19}, {1, 19, 18, 0}, {1, 19, 19, 1}, {20, 19, 18, 18}, {20, 19, 19, 20},
            {19, 20, 1, 0}, {19, 20, 2, 1}, {1, 2, 1, 0}, {1, 2, 2, 1}, {1, 20, 39, 1}, {1, 20, 40, 2}};
        for (int[] row : rows) {
            MinsterClock clock = new MinsterClock();
            clock.setBeat(row[0], row[1]);
            Check.same(row[2] + " beats of " + row[0] + " / " + row[1], Clocks.shownBehind(clock, row[2]), row[3]);
        }
        int[][] wrong = {{0, 1}, {21, 1}, {1, 0}, {1, 21}};
        MinsterClock clock = new MinsterClock();
        for (int[] pair : wrong) {
            Check.fails("a beat of " + pair[0] + " / " + pair[1], ARGUMENT, () -> clock.setBeat(pair[0], pair[1]));
        }
    }

    private static void wholeSeconds() {
        MinsterClock clock = new MinsterClock();
        clock.setBeat(19, 20);
        Check.same("19 / 20 is no whole second", Clocks.shownBehind(clock, 1), 0);
        Check.same("38 / 20", Clocks.shownBehind(clock, 1), 1);
        Check.same("361 / 20", Clocks.shownBehind(clock, 17), 18);
        Check.same("380 / 20", Clocks.shownBehind(clock, 1), 19);
        MinsterClock most = new MinsterClock();
        most.setBeat(19, 20);
        Check.same("4999 * 19 / 20 = 4749.05", Clocks.shownBehind(most, 4999), 4749);
        Check.same("5000 * 19 / 20 = 4750", Clocks.shownBehind(most, 1), 4750);
        MinsterClock mark = new MinsterClock();
        mark.setBeat(1, 20);
        mark.pass(5000);
        mark.pass(5000);
        mark.pass(5000);
        Check.same("899.95 seconds strike nothing", mark.pass(2999), 0);
        Check.same("899.95 seconds", mark.shown(), 899);
        Check.same("900 do", mark.pass(1), 1);
    }

    private static void restIsKept() {
        MinsterClock clock = new MinsterClock();
        clock.setBeat(1, 3);
        int[] due = {0, 0, 1, 1, 1, 2};
        for (int beat = 1; beat <= due.length; beat++) {
            Check.same("beat by beat, " + beat + " / 3", Clocks.shownBehind(clock, 1), due[beat - 1]);
        }
        clock.pass(2);
        clock.owe(1);
        clock.setBound(0);
        clock.setDate(2001, 1, 1);
        clock.strokesAhead(5000);
        clock.strokesByBeats(5000);
        clock.isOnce();
        Check.fails("a fraction that is refused", ARGUMENT, () -> clock.setBeat(1, 21));
        Check.fails("beats that are refused", ARGUMENT, () -> clock.pass(5001));
        Check.same("other calls keep the rest, 9 / 3", Clocks.shownBehind(clock, 1), 3);
        clock.pass(170);
        Check.same("179 / 3", clock.shown(), 59);
        clock.setBound(5);
        clock.owe(4);
        Check.same("180 / 3, and corrected by 5", Clocks.shownBehind(clock, 1), 65);
        Check.same("182 / 3", Clocks.shownBehind(clock, 2), 65);
        Check.same("a correction keeps the rest, 183 / 3", Clocks.shownBehind(clock, 1), 66);
    }

    private static void restIsLost() {
        MinsterClock clock = new MinsterClock();
        clock.setBeat(1, 20);
        clock.pass(19);
        clock.setBeat(1, 1);
        Check.same("19 / 20 lost, 1 second", Clocks.shownBehind(clock, 1), 1);
        clock.setBeat(1, 20);
        clock.pass(19);
        clock.setBeat(1, 20);
        Check.same("lost though the fraction is the same: 1 / 20", Clocks.shownBehind(clock, 1), 1);
        Check.same("19 / 20", Clocks.shownBehind(clock, 18), 1);
        Check.same("20 / 20", Clocks.shownBehind(clock, 1), 2);
        clock.setBeat(2, 3);
        clock.pass(1);
        clock.setBeat(1, 2);
        Check.same("1 / 2", Clocks.shownBehind(clock, 1), 2);
        Check.same("2 / 2", Clocks.shownBehind(clock, 1), 3);
        clock.setBeat(20, 19);
        clock.pass(18);
        clock.setBeat(1, 20);
        Check.same("18 of 19 parts lost", Clocks.shownBehind(clock, 19), 21);
    }

    private static void sinceBeginning() {
        MinsterClock clock = new MinsterClock();
        Check.same("at first", clock.shown(), 0);
        clock.setDate(1600, 1, 1);
        clock.owe(600);
        Check.same("neither a date nor a debt moves it", clock.shown(), 0);
        Check.same("a second", Clocks.shownBehind(clock, 1), 1);
        Check.same("a day and a second: it does not begin again", Clocks.at(86401).shown(), 86401);
        Check.same("100 days", Clocks.at(8640000).shown(), 8640000);
    }

    private static void greaterBy1() {
        MinsterClock clock = new MinsterClock();
        for (int second = 1; second <= 61; second++) {
            Check.same("second " + second, Clocks.shownBehind(clock, 1), second);
        }
        MinsterClock leap = Clocks.at(3599);
        Check.same("at an hour too", Clocks.shownBehind(leap, 1), 3600);
        MinsterClock midnight = Clocks.at(86399);
        Check.same("at midnight too", Clocks.shownBehind(midnight, 1), 86400);
        Check.same("behind it", Clocks.shownBehind(midnight, 1), 86401);
    }

    private static void timesOfTheDay() {
        int[] seconds = {0, 59, 60, 3599, 3600, 3659, 3660, 43199, 43200, 82799, 82800, 86399, 86400, 86459, 86460,
            89999, 90000, 172799, 172800};
        String[] due = {"0:0", "0:0", "0:1", "0:59", "1:0", "1:0", "1:1", "11:59", "12:0", "22:59", "23:0", "23:59",
            "0:0", "0:0", "0:1", "0:59", "1:0", "23:59", "0:0"};
        for (int i = 0; i < seconds.length; i++) {
            Check.same("the time of " + seconds[i], Clocks.time(Clocks.at(seconds[i])), due[i]);
        }
    }

    private static void owed() {
        MinsterClock clock = new MinsterClock();
        Check.same("at first", clock.owe(0), 0);
        Check.same("nothing owed, nothing corrected", Clocks.shownBehind(clock, 60), 60);
        MinsterClock forward = Clocks.owing(1);
        Check.same("1 owed goes forward", Clocks.shownBehind(forward, 60), 61);
        MinsterClock back = Clocks.owing(-1);
        Check.same("-1 owed goes back", Clocks.shownBehind(back, 60), 59);
    }

    private static void bounds() {
        MinsterClock first = new MinsterClock();
        Check.same("5 at first", first.setBound(5), 5);
        Check.same("5 at first, as it works", Clocks.shownBehind(Clocks.owing(6), 60), 65);
        for (int bound = 0; bound <= 30; bound++) {
            MinsterClock clock = Clocks.owing(600);
            clock.setBound(bound);
            Check.same("the bound " + bound, Clocks.shownBehind(clock, 60), 60 + bound);
            Check.same("it is kept", clock.setBound(0), bound);
        }
        for (int wrong : new int[] {-1, 31}) {
            Check.fails("the bound " + wrong, ARGUMENT, () -> first.setBound(wrong));
        }
    }

    private static void atMultiplesOf60() {
        for (int minute : new int[] {60, 120, 900, 3600, 86400}) {
            MinsterClock clock = Clocks.at(minute - 2);
            clock.owe(5);
            Check.same("one before " + minute, Clocks.shownBehind(clock, 1), minute - 1);
            Check.same("not yet " + minute, clock.owe(0), 5);
            Check.same("at " + minute, Clocks.shownBehind(clock, 1), minute + 5);
            Check.same("done at " + minute, clock.owe(0), 0);
        }
        MinsterClock clock = Clocks.owing(12);
        // 60 becomes 65; 55 seconds on 120 becomes 125, 55 seconds on 180 becomes 182; 58 seconds on it is 240.
        Check.same("within one call, one before", Clocks.shownBehind(clock, 60 + 55 + 54), 179);
        Check.same("within one call", Clocks.shownBehind(clock, 1), 182);
        Check.same("nothing left", Clocks.shownBehind(clock, 58), 240);
        MinsterClock long9 = Clocks.owing(5);
        long9.setBeat(9, 1);
        Check.same("within a beat: 6 beats are 54", Clocks.shownBehind(long9, 6), 54);
        Check.same("within a beat: 60 becomes 65, and 3 more", Clocks.shownBehind(long9, 1), 68);
    }

    private static void onlyWhenASecondPasses() {
        MinsterClock clock = Clocks.at(60);
        clock.owe(5);
        clock.setBound(30);
        Check.same("60 is shown, but no second passes", clock.shown(), 60);
        clock.setBeat(1, 20);
        Check.same("nor by a part of one", Clocks.shownBehind(clock, 19), 60);
        Check.same("the next second makes it 61", Clocks.shownBehind(clock, 1), 61);
        Check.same("all is still owed", clock.owe(0), 5);
        MinsterClock first = Clocks.owing(5);
        Check.same("the number 0 at first was made by no second", Clocks.shownBehind(first, 1), 1);
        // A correction by as much as 30 never comes to a multiple of 60 itself.
        MinsterClock most = Clocks.owing(600);
        most.setBound(30);
        Check.same("once for a minute", Clocks.shownBehind(most, 60), 90);
        Check.same("and again for the next", Clocks.shownBehind(most, 30), 150);
    }

    private static void wheneverItComesAgain() {
        MinsterClock clock = Clocks.owing(-12);
        Check.same("60 for the first time", Clocks.shownBehind(clock, 60), 55);
        Check.same("59 again", Clocks.shownBehind(clock, 4), 59);
        Check.same("60 for the second time", Clocks.shownBehind(clock, 1), 55);
        Check.same("60 for the third time", Clocks.shownBehind(clock, 5), 58);
        Check.same("60 for the fourth time", Clocks.shownBehind(clock, 2), 60);
        Check.same("nothing left", Clocks.shownBehind(clock, 1), 61);
        MinsterClock one = Clocks.owing(-12);
        Check.same("the same in one call, one before", Clocks.shownBehind(one, 60 + 5 + 5 + 1), 59);
        Check.same("the same in one call", Clocks.shownBehind(one, 1), 60);
    }

    private static void afterTheStrike() {
        MinsterClock back = Clocks.at(3599);
        back.setSilence(0, 1);
        back.owe(-5);
        Check.same("1:00 strikes as 1, which is not silent", back.pass(1), 1);
        Check.same("and goes back behind it", Clocks.time(back), "0:59");
        MinsterClock silent = Clocks.at(3599);
        silent.setSilence(1, 2);
        silent.owe(-5);
        Check.same("1:00 is silent", silent.pass(1), 0);
        Check.same("and goes back all the same", silent.shown(), 3595);
        MinsterClock forward = Clocks.at(899);
        forward.owe(5);
        Check.same("0:15 strikes", forward.pass(1), 1);
        Check.same("and goes forward", forward.shown(), 905);
        Check.same("struck as the mark 1", forward.markAt(0), 1);
        MinsterClock none = Clocks.at(59);
        none.owe(5);
        Check.same("where nothing strikes", none.pass(1), 0);
        Check.same("it is corrected as well", none.shown(), 65);
        MinsterClock off = Clocks.at(899);
        off.setQuarters(false);
        off.owe(5);
        Check.same("a quarter while they are off", off.pass(1), 0);
        Check.same("it is corrected as well", off.shown(), 905);
    }

    private static void atMostTheBound() {
        // The bound, what is owed, what is shown for 60, and what is owed then.
        int[][] rows = {{5, 4, 64, 0}, {5, 5, 65, 0}, {5, 6, 65, 1}, {5, -4, 56, 0}, {5, -5, 55, 0}, {5, -6, 55, -1},
            {0, 1, 60, 1}, {0, -1, 60, -1}, {0, 0, 60, 0}, {1, 1, 61, 0}, {1, -1, 59, 0}, {1, 2, 61, 1},
            {1, -2, 59, -1}, {30, 29, 89, 0}, {30, 30, 90, 0}, {30, 31, 90, 1}, {30, -29, 31, 0}, {30, -30, 30, 0},
            {30, -31, 30, -1}, {30, 3600, 90, 3570}, {30, -3600, 30, -3570}, {0, 3600, 60, 3600}};
        for (int[] row : rows) {
            MinsterClock clock = Clocks.owing(row[1]);
            clock.setBound(row[0]);
            String told = "the bound " + row[0] + ", owed " + row[1];
            Check.same(told + ", one before", Clocks.shownBehind(clock, 59), 59);
            Check.same(told, Clocks.shownBehind(clock, 1), row[2]);
            Check.same(told + ", left", clock.owe(0), row[3]);
        }
    }

    private static void notOwedAnyMore() {
        MinsterClock forward = Clocks.owing(3600);
        forward.setBound(30);
        // 60 seconds to the first correction and 30 to each of the 119 others.
        Check.same("3600 forward, one before the last", Clocks.shownBehind(forward, 60 + 119 * 30 - 1), 7199);
        Check.same("30 left", forward.owe(0), 30);
        Check.same("3600 forward", Clocks.shownBehind(forward, 1), 7230);
        Check.same("nothing left", forward.owe(0), 0);
        Check.same("and no more", Clocks.shownBehind(forward, 30), 7260);
        MinsterClock back = Clocks.owing(-3600);
        back.setBound(30);
        Check.same("3600 back, one before the last", Clocks.shownBehind(back, 60 + 119 * 30 - 1), 59);
        Check.same("30 left", back.owe(0), -30);
        Check.same("3600 back", Clocks.shownBehind(back, 1), 30);
        Check.same("nothing left", back.owe(0), 0);
        Check.same("and no more", Clocks.shownBehind(back, 30), 60);
        MinsterClock turned = Clocks.owing(7);
        turned.pass(60);
        Check.same("2 are left of 7, so -3", turned.owe(-5), -3);
        Check.same("back now", Clocks.shownBehind(turned, 55), 117);
        Check.same("nothing left", turned.owe(0), 0);
    }

    private static void numeratorBefore() {
        MinsterClock clock = new MinsterClock();
        Check.same("1 at first", clock.setBeat(20, 3), 1);
        Check.same("20, and not the denominator", clock.setBeat(7, 20), 20);
        Check.same("the same once more", clock.setBeat(7, 20), 7);
        Check.fails("one that is refused", ARGUMENT, () -> clock.setBeat(21, 1));
        Check.same("is not the one before", clock.setBeat(1, 1), 7);
    }

    private static void wrongFraction() {
        int[][] wrong = {{0, 1}, {21, 1}, {1, 0}, {1, 21}, {0, 0}, {21, 21}, {-1, 20}, {20, -1}, {Integer.MIN_VALUE, 1},
            {Integer.MAX_VALUE, 1}, {1, Integer.MIN_VALUE}, {1, Integer.MAX_VALUE}};
        for (int[] pair : wrong) {
            // The living clock keeps 14 / 20 of a second, which must stay.
            Twins.refuses("setBeat(" + pair[0] + ", " + pair[1] + ")", Clocks::live, ARGUMENT,
                    clock -> clock.setBeat(pair[0], pair[1]));
        }
        int[][] right = {{1, 1}, {20, 1}, {1, 20}, {20, 20}};
        MinsterClock clock = new MinsterClock();
        int before = 1;
        for (int[] pair : right) {
            Check.same("setBeat(" + pair[0] + ", " + pair[1] + ")", clock.setBeat(pair[0], pair[1]), before);
            before = pair[0];
        }
    }

    private static void beatsThatPass() {
        MinsterClock clock = new MinsterClock();
        Check.same("1 beat", Clocks.shownBehind(clock, 1), 1);
        Check.same("5000 beats", Clocks.shownBehind(clock, 5000), 5001);
        Check.same("4999 beats", Clocks.shownBehind(clock, 4999), 10000);
        for (int beats : new int[] {0, 5001}) {
            Check.fails(beats + " beats", ARGUMENT, () -> clock.pass(beats));
        }
        Check.same("as many beats", clock.beats(), 10000L);
    }

    private static void strokesThatPass() {
        MinsterClock clock = new MinsterClock();
        Check.same("none up to 899", clock.pass(899), 0);
        Check.same("1 at 900", clock.pass(1), 1);
        Check.same("none at 901: those before do not count", clock.pass(1), 0);
        Check.same("2 and 3 up to 3599", clock.pass(2698), 5);
        Check.same("1 at 3600", clock.pass(1), 1);
        MinsterClock most = Clocks.loudest();
        most.setBeat(20, 1);
        // 111 marks: 27 hours of them full ones, 12 twice from 1 to 12 and then 1, 2, 3; 84 quarters, 28 of each kind.
        Check.same("the most that one call can bring", most.pass(5000), 2 * 78 + 6 + 28 * 6 + 27 * 256);
    }

    private static void wrongBeats() {
        for (int beats : new int[] {0, 5001, -1, Integer.MIN_VALUE, Integer.MAX_VALUE}) {
            Twins.refuses("pass(" + beats + ")", Clocks::live, ARGUMENT, clock -> clock.pass(beats));
        }
        MinsterClock clock = Clocks.at(899);
        Check.fails("no beat at the edge of a mark", ARGUMENT, () -> clock.pass(0));
        Check.same("the mark is still to come", clock.pass(1), 1);
    }

    private static void beatsSoFar() {
        MinsterClock clock = new MinsterClock();
        Check.same("none yet", clock.beats(), 0L);
        clock.pass(1);
        Check.same("one", clock.beats(), 1L);
        clock.pass(5000);
        clock.pass(5000);
        Check.same("all of all calls", clock.beats(), 10001L);
        Check.fails("beats that are refused", ARGUMENT, () -> clock.pass(5001));
        Check.same("do not count", clock.beats(), 10001L);
    }

    private static void beatsAndNotSeconds() {
        MinsterClock clock = Clocks.owing(60);
        clock.setBeat(1, 20);
        clock.pass(19);
        Check.same("beats that bring no second yet", clock.beats(), 19L);
        clock.setBeat(20, 1);
        clock.pass(3);
        Check.same("beats of 20 seconds, and a correction", clock.beats(), 22L);
    }

    private static void secondsShown() {
        MinsterClock clock = new MinsterClock();
        Check.same("nothing yet", clock.shown(), 0);
        clock.pass(59);
        Check.same("59", clock.shown(), 59);
        clock.owe(-5);
        clock.pass(1);
        Check.same("with its correction", clock.shown(), 55);
        clock.pass(5);
        Check.same("60", clock.shown(), 60);
        Check.same("it does not begin again with a day", Clocks.at(172800).shown(), 172800);
    }

    private static void hours() {
        for (int hour = 0; hour <= 23; hour++) {
            MinsterClock clock = Clocks.at(hour * 3600);
            Check.same("the hour at its beginning", clock.hour(), hour);
            clock.pass(3599);
            Check.same("the hour at its end", clock.hour(), hour);
            clock.pass(1);
            Check.same("the next hour", clock.hour(), hour == 23 ? 0 : hour + 1);
        }
        MinsterClock back = Clocks.at(86399);
        back.owe(-1);
        back.pass(1);
        Check.same("23 again, when it falls below midnight", back.hour(), 23);
    }

    private static void minutes() {
        for (int minute = 0; minute <= 59; minute++) {
            MinsterClock clock = Clocks.at(3600 + minute * 60);
            Check.same("the minute at its beginning", clock.minute(), minute);
            clock.pass(59);
            Check.same("the minute at its end", clock.minute(), minute);
            clock.pass(1);
            Check.same("the next minute", clock.minute(), minute == 59 ? 0 : minute + 1);
        }
    }

    private static void secondsToOwe() {
        for (int most : new int[] {600, -600, 599, -599, 0, 1, -1}) {
            Check.same("owe(" + most + ")", new MinsterClock().owe(most), most);
        }
        for (int wrong : new int[] {601, -601, Integer.MAX_VALUE, Integer.MIN_VALUE}) {
            Twins.refuses("owe(" + wrong + ")", Clocks::live, ARGUMENT, clock -> clock.owe(wrong));
        }
        // What would be owed then is no excuse for seconds that are out of range.
        Check.fails("owe(601) of -600", ARGUMENT, () -> Clocks.owing(-600).owe(601));
        Check.fails("owe(-601) of 600", ARGUMENT, () -> Clocks.owing(600).owe(-601));
    }

    private static void owedAfterTheCall() {
        MinsterClock clock = new MinsterClock();
        Check.same("owe(0) at first", clock.owe(0), 0);
        Check.same("600", clock.owe(600), 600);
        Check.same("600 - 600", clock.owe(-600), 0);
        Check.same("0 - 1", clock.owe(-1), -1);
        clock.pass(60);
        Check.same("what is not owed any more", clock.owe(0), 0);
    }

    private static void tooMuchOwed() {
        Check.same("3000 + 600", Clocks.owing(3000).owe(600), 3600);
        Check.same("3001 + 599", Clocks.owing(3001).owe(599), 3600);
        Check.same("-3000 - 600", Clocks.owing(-3000).owe(-600), -3600);
        Check.same("3600 + 0", Clocks.owing(3600).owe(0), 3600);
        Check.same("-3600 + 600", Clocks.owing(-3600).owe(600), -3000);
        // What is owed, and the least that makes it too much.
        int[][] rows = {{3600, 1}, {3599, 2}, {3001, 600}, {-3600, -1}, {-3599, -2}, {-3001, -600}};
        for (int[] row : rows) {
            Check.fails(row[0] + " and " + row[1], ARGUMENT, () -> Clocks.owing(row[0]).owe(row[1]));
            Check.same("one less", Clocks.owing(row[0]).owe(row[1] - Integer.signum(row[1])),
                    Integer.signum(row[1]) * 3600);
        }
        Twins.refuses("owe(1) of 3600", GoingSentences::owes3600, ARGUMENT, clock -> clock.owe(1));
        Twins.refuses("owe(601) of 3600", GoingSentences::owes3600, ARGUMENT, clock -> clock.owe(601));
        MinsterClock paid = Clocks.owing(3600);
        paid.pass(60);
        Check.fails("5 are paid, 6 are too much", ARGUMENT, () -> paid.owe(6));
        Check.same("5 are not", paid.owe(5), 3600);
    }

    private static void owes3600(MinsterClock clock) {
        for (int call = 0; call < 6; call++) {
            clock.owe(600);
        }
    }

    private static void boundBefore() {
        MinsterClock clock = new MinsterClock();
        Check.same("5 at first", clock.setBound(0), 5);
        Check.same("0", clock.setBound(30), 0);
        Check.same("30", clock.setBound(30), 30);
        Check.fails("one that is refused", ARGUMENT, () -> clock.setBound(31));
        Check.same("is not the one before", clock.setBound(1), 30);
    }

    private static void wrongBound() {
        for (int wrong : new int[] {-1, 31, -5, Integer.MIN_VALUE, Integer.MAX_VALUE}) {
            Twins.refuses("setBound(" + wrong + ")", Clocks::live, ARGUMENT, clock -> clock.setBound(wrong));
        }
        MinsterClock clock = new MinsterClock();
        Check.same("the bound 0", clock.setBound(0), 5);
        Check.same("the bound 30", clock.setBound(30), 0);
    }
}
