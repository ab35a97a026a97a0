/** The sentences about beats and hands: promises 9 to 14, and the paragraphs 'Beats' and 'Hands'. */
final class GoingSentences {
    private static final Class<IllegalArgumentException> ARGUMENT = IllegalArgumentException.class;
    private static final String BEAT = "The seconds that have passed are the sum of these fractions, of which only"
            + " whole seconds move the hands; the rest is kept, and is lost when the fraction is set.";

    private GoingSentences() {
    }

    static void test(Sentences s) {
        s.whatItIs(10, "A clock of a tower with its carillon: a train of wheels passes on the beats, hands show the"
                + " time, bells strike the hours and the quarters, drums with pins play tunes, and errors are corrected"
                + " by little.", GoingSentences::allOfIt);
        s.whatItIs(12, "An object is used for at most 512 calls after it has been made; what later calls answer is"
                + " free.", GoingSentences::farthestIn512Calls);
        s.terms(11, "Time passes by beats; wheels, hands, bells and pins are asked.", GoingSentences::asked);
        s.terms(9, "A beat takes a fraction of a second, whose numerator and denominator are from 1 to 20.",
                GoingSentences::fractions);
        s.terms(10, BEAT, GoingSentences::wholeSeconds);
        s.terms(10, BEAT, GoingSentences::restIsKept);
        s.terms(9, BEAT, GoingSentences::restIsLost);
        s.terms(12, "The clock shows a number of seconds since its beginning, 0 at first.",
                GoingSentences::sinceBeginning);
        s.terms(12, "Each whole second that passes makes it greater by 1.", GoingSentences::greaterBy1);
        s.terms(13, "The hour, the minute and the second are found from it as usual; a day has 86400 seconds.",
                GoingSentences::timesOfTheDay);
        testPromises(s);
    }

    private static void testPromises(Sentences s) {
        s.promise(9, "Sets how long a beat takes.", GoingSentences::setsTheBeat);
        s.promise(9, "`numerator`: the numerator", GoingSentences::numerators);
        s.promise(9, "`denominator`: the denominator", GoingSentences::denominators);
        s.promise(9, "Returns the numerator before.", GoingSentences::numeratorBefore);
        s.promise(9, "Throws `IllegalArgumentException` if a number is out of range", GoingSentences::wrongFraction);
        s.promise(10, "Lets beats pass.", GoingSentences::letsBeatsPass);
        s.promise(10, "`beats`: the number of beats, 1 to 5000", GoingSentences::beatsThatPass);
        s.promise(10, "Returns the number of strokes.", GoingSentences::strokesThatPass);
        s.promise(10, "Throws `IllegalArgumentException` if the number is out of range", GoingSentences::wrongBeats);
        s.promise(11, "Returns the number of beats so far.", GoingSentences::beatsSoFar);
        s.promise(11, "Returns the number of beats.", GoingSentences::beatsAndNotSeconds);
        s.promise(12, "Returns the number of seconds that is shown.", GoingSentences::shownAndNotPassed);
        s.promise(12, "Returns the number of seconds.", GoingSentences::secondsShown);
        s.promise(13, "Returns the hour that is shown.", GoingSentences::hourShown);
        s.promise(13, "Returns the hour, 0 to 23.", GoingSentences::hours);
        s.promise(14, "Returns the minute that is shown.", GoingSentences::minuteShown);
        s.promise(14, "Returns the minute, 0 to 59.", GoingSentences::minutes);
    }

    private static void allOfIt() {
        MinsterClock clock = Clocks.withDrums(1);
        clock.addWheel(60, 10);
        clock.setPin(0, 0, 5, true);
        clock.setPin(0, 1, 8, true);
        clock.setTune(1, 0);
        clock.owe(12);
        // 5, 5 and 2 seconds of the 12 are corrected at 1, 2 and 3 minutes, so that 3588 beats bring a full hour.
        Check.same("the hour 1 is not yet struck", clock.pass(3587), 1 + 2 + 3);
        Check.same("the hour 1, and its tune", clock.pass(1), 1 + 2);
        Check.same("wheels pass on the beats: 3588 * 10 / 30", clock.moved(1), 1196);
        Check.same("hands show the time", clock.shown() + " " + Clocks.time(clock), "3600 1:0");
        Check.same("a bell strikes the hours", clock.strokes(0), 1);
        Check.same("a bell strikes the quarters", clock.strokes(1), 6);
        Check.same("bells play the tune", clock.strokes(5) + " " + clock.strokes(8), "1 1");
        Check.same("nothing is wrong any more", clock.owe(0), 0);
    }

    private static void farthestIn512Calls() {
        MinsterClock clock = Clocks.byMarks();
        for (int call = 2; call <= 505; call++) {
            clock.pass(5000);
        }
        // 504 calls of 5000 beats of 20 seconds.
        Check.same("call 506, shown", clock.shown(), 50400000);
        Check.same("call 507, beats", clock.beats(), 2520000L);
        Check.same("call 508, strikes: a mark each 900 seconds", clock.strikes(), 56000);
        Check.same("call 509, the latest mark", clock.markAt(0), 56000);
        // 583 days of 300 strokes, and 28800 seconds, 8 hours: 8 * 6 at the quarters and 1 to 8.
        Check.same("call 510, the hours' bell", clock.strokes(0), 583 * 156 + 36);
        Check.same("call 511, the year behind 583 days", clock.year(), 2001);
        Check.same("call 512, isOnce", clock.isOnce(), true);
    }

    private static void asked() {
        Twins.keeps("all that is asked", Clocks::live, clock -> {
            clock.moved(1);
            clock.movedAhead(2, 5000);
            clock.movedByBeats(2, 5000);
            clock.strokesAhead(5000);
            clock.strokesByBeats(5000);
            clock.hour();
            clock.minute();
            clock.year();
            clock.isLeap(2000);
            clock.numberOf(2000, 1, 1);
            clock.numberByCounting(2000, 1, 1);
            clock.pins(0);
            clock.bellAt(0, 0);
            clock.strokes(0);
            clock.markAt(0);
            clock.struckShare();
            clock.isOnce();
        });
        MinsterClock clock = new MinsterClock();
        int answers = clock.owe(600) + clock.setBound(30) + clock.addWheel(6, 6);
        Check.same("calls that set let no time pass", answers, 606);
        Check.same("no beat", clock.beats(), 0L);
        Check.same("no second", clock.shown(), 0);
    }

    private static void fractions() {
        // The numerator, the denominator, the beats, and the seconds that they take.
        int[][] rows = {{1, 1, 1, 1}, {1, 20, 19, 0}, {1, 20, 20, 1}, {20, 1, 1, 20}, {20, 20, 1, 1}, {2, 20, 9, 0},
            {2, 20, 10, 1}, {19, 1, 1, 19}, {1, 19, 18, 0}, {1, 19, 19, 1}, {20, 19, 18, 18}, {20, 19, 19, 20},
            {19, 20, 1, 0}, {19, 20, 2, 1}, {1, 2, 1, 0}, {1, 2, 2, 1}, {1, 20, 39, 1}, {1, 20, 40, 2}};
        for (int[] row : rows) {
            MinsterClock clock = new MinsterClock();
            clock.setBeat(row[0], row[1]);
            Check.same(row[2] + " beats of " + row[0] + " / " + row[1], Clocks.shownBehind(clock, row[2]), row[3]);
        }
        int[][] wrong = {{0, 1}, {21, 1}, {1, 0}, {1, 21}};
        MinsterClock clock = new MinsterClock();
        for (int[] pair : wrong) {
            Check.fails("a beat of " + pair[0] + " / " + pair[1], ARGUMENT, () -> clock.setBeat(pair[0], pair[1]));
        }
    }

    private static void wholeSeconds() {
        MinsterClock clock = new MinsterClock();
        clock.setBeat(19, 20);
        Check.same("19 / 20 is no whole second", Clocks.shownBehind(clock, 1), 0);
        Check.same("38 / 20", Clocks.shownBehind(clock, 1), 1);
        Check.same("361 / 20", Clocks.shownBehind(clock, 17), 18);
        Check.same("380 / 20", Clocks.shownBehind(clock, 1), 19);
        MinsterClock most = new MinsterClock();
        most.setBeat(19, 20);
        Check.same("4999 * 19 / 20 = 4749.05", Clocks.shownBehind(most, 4999), 4749);
        Check.same("5000 * 19 / 20 = 4750", Clocks.shownBehind(most, 1), 4750);
        MinsterClock mark = new MinsterClock();
        mark.setBeat(1, 20);
        mark.pass(5000);
        mark.pass(5000);
        mark.pass(5000);
        Check.same("899.95 seconds strike nothing", mark.pass(2999), 0);
        Check.same("899.95 seconds", mark.shown(), 899);
        Check.same("900 do", mark.pass(1), 1);
    }

    private static void restIsKept() {
        MinsterClock clock = new MinsterClock();
        clock.setBeat(1, 3);
        int[] due = {0, 0, 1, 1, 1, 2};
        for (int beat = 1; beat <= due.length; beat++) {
            Check.same("beat by beat, " + beat + " / 3", Clocks.shownBehind(clock, 1), due[beat - 1]);
        }
        clock.pass(2);
        clock.owe(1);
        clock.setBound(0);
        clock.setDate(2001, 1, 1);
        clock.strokesAhead(5000);
        clock.strokesByBeats(5000);
        clock.isOnce();
        Check.fails("a fraction that is refused", ARGUMENT, () -> clock.setBeat(1, 21));
        Check.fails("beats that are refused", ARGUMENT, () -> clock.pass(5001));
        Check.same("other calls keep the rest, 9 / 3", Clocks.shownBehind(clock, 1), 3);
        clock.pass(170);
        Check.same("179 / 3", clock.shown(), 59);
        clock.setBound(5);
        clock.owe(4);
        Check.same("180 / 3, and corrected by 5", Clocks.shownBehind(clock, 1), 65);
        Check.same("182 / 3", Clocks.shownBehind(clock, 2), 65);
        Check.same("a correction keeps the rest, 183 / 3", Clocks.shownBehind(clock, 1), 66);
    }

    private static void restIsLost() {
        MinsterClock clock = new MinsterClock();
        clock.setBeat(1, 20);
        clock.pass(19);
        clock.setBeat(1, 1);
        Check.same("19 / 20 lost, 1 second", Clocks.shownBehind(clock, 1), 1);
        clock.setBeat(1, 20);
        clock.pass(19);
        clock.setBeat(1, 20);
        Check.same("lost though the fraction is the same: 1 / 20", Clocks.shownBehind(clock, 1), 1);
        Check.same("19 / 20", Clocks.shownBehind(clock, 18), 1);
        Check.same("20 / 20", Clocks.shownBehind(clock, 1), 2);
        clock.setBeat(2, 3);
        clock.pass(1);
        clock.setBeat(1, 2);
        Check.same("1 / 2", Clocks.shownBehind(clock, 1), 2);
        Check.same("2 / 2", Clocks.shownBehind(clock, 1), 3);
        clock.setBeat(20, 19);
        clock.pass(18);
        clock.setBeat(1, 20);
        Check.same("18 of 19 parts lost", Clocks.shownBehind(clock, 19), 21);
    }

    private static void sinceBeginning() {
        MinsterClock clock = new MinsterClock();
        Check.same("at first", clock.shown(), 0);
        clock.setDate(1600, 1, 1);
        clock.owe(600);
        Check.same("neither a date nor a debt moves it", clock.shown(), 0);
        Check.same("a second", Clocks.shownBehind(clock, 1), 1);
        Check.same("a day and a second: it does not begin again", Clocks.at(86401).shown(), 86401);
        Check.same("100 days", Clocks.at(8640000).shown(), 8640000);
    }

    private static void greaterBy1() {
        MinsterClock clock = new MinsterClock();
        for (int second = 1; second <= 61; second++) {
            Check.same("second " + second, Clocks.shownBehind(clock, 1), second);
        }
        MinsterClock leap = Clocks.at(3599);
        Check.same("at an hour too", Clocks.shownBehind(leap, 1), 3600);
        MinsterClock midnight = Clocks.at(86399);
        Check.same("at midnight too", Clocks.shownBehind(midnight, 1), 86400);
        Check.same("behind it", Clocks.shownBehind(midnight, 1), 86401);
    }

    private static void timesOfTheDay() {
        int[] seconds = {0, 59, 60, 3599, 3600, 3659, 3660, 43199, 43200, 82799, 82800, 86399, 86400, 86459, 86460,
            89999, 90000, 172799, 172800};
        String[] due = {"0:0", "0:0", "0:1", "0:59", "1:0", "1:0", "1:1", "11:59", "12:0", "22:59", "23:0", "23:59",
            "0:0", "0:0", "0:1", "0:59", "1:0", "23:59", "0:0"};
        for (int i = 0; i < seconds.length; i++) {
            Check.same("the time of " + seconds[i], Clocks.time(Clocks.at(seconds[i])), due[i]);
        }
    }

    private static void setsTheBeat() {
        MinsterClock clock = new MinsterClock();
        clock.pass(10);
        clock.setBeat(3, 1);
        Check.same("it moves nothing itself", clock.shown() + " " + clock.beats(), "10 10");
        Check.same("4 beats of 3 / 1", Clocks.shownBehind(clock, 4), 10 + 12);
        clock.setBeat(1, 4);
        Check.same("8 beats of 1 / 4", Clocks.shownBehind(clock, 8), 22 + 2);
        clock.setBeat(20, 1);
        clock.setBeat(3, 2);
        Check.same("the latest one counts, 4 beats of 3 / 2", Clocks.shownBehind(clock, 4), 24 + 6);
        Check.same("it stays for the next ones", Clocks.shownBehind(clock, 2), 30 + 3);
        MinsterClock other = new MinsterClock();
        Check.same("another clock has its own", Clocks.shownBehind(other, 4), 4);
    }

    private static void numerators() {
        for (int numerator = 1; numerator <= 20; numerator++) {
            MinsterClock clock = new MinsterClock();
            clock.setBeat(numerator, 20);
            Check.same("20 beats of " + numerator + " / 20", Clocks.shownBehind(clock, 20), numerator);
            clock.setBeat(numerator, 1);
            Check.same("a beat of " + numerator + " / 1", Clocks.shownBehind(clock, 1), 2 * numerator);
        }
    }

    private static void denominators() {
        for (int denominator = 1; denominator <= 20; denominator++) {
            MinsterClock clock = new MinsterClock();
            clock.setBeat(1, denominator);
            for (int beat = 1; beat < denominator; beat++) {
                Check.same(beat + " / " + denominator, Clocks.shownBehind(clock, 1), 0);
            }
            Check.same("a second of 1 / " + denominator, Clocks.shownBehind(clock, 1), 1);
            clock.setBeat(20, denominator);
            Check.same("20 seconds of 20 / " + denominator, Clocks.shownBehind(clock, denominator), 21);
        }
    }

    private static void numeratorBefore() {
        MinsterClock clock = new MinsterClock();
        Check.same("1 at first", clock.setBeat(20, 3), 1);
        Check.same("20, and not the denominator", clock.setBeat(7, 20), 20);
        Check.same("the same once more", clock.setBeat(7, 20), 7);
        Check.fails("one that is refused", ARGUMENT, () -> clock.setBeat(21, 1));
        Check.same("is not the one before", clock.setBeat(1, 1), 7);
    }

    private static void wrongFraction() {
        int[][] wrong = {{0, 1}, {21, 1}, {1, 0}, {1, 21}, {0, 0}, {21, 21}, {-1, 20}, {20, -1}, {Integer.MIN_VALUE, 1},
            {Integer.MAX_VALUE, 1}, {1, Integer.MIN_VALUE}, {1, Integer.MAX_VALUE}};
        for (int[] pair : wrong) {
            // The living clock keeps 14 / 20 of a second, which must stay.
            Twins.refuses("setBeat(" + pair[0] + ", " + pair[1] + ")", Clocks::live, ARGUMENT,
                    clock -> clock.setBeat(pair[0], pair[1]));
        }
        int[][] right = {{1, 1}, {20, 1}, {1, 20}, {20, 20}};
        MinsterClock clock = new MinsterClock();
        int before = 1;
        for (int[] pair : right) {
            Check.same("setBeat(" + pair[0] + ", " + pair[1] + ")", clock.setBeat(pair[0], pair[1]), before);
            before = pair[0];
        }
    }

    /** 500 beats of 20 seconds, at once and one by one: 10000 seconds with 11 marks, of them the hours 1 and 2. */
    private static void letsBeatsPass() {
        MinsterClock atOnce = Clocks.byMarks();
        MinsterClock oneByOne = Clocks.byMarks();
        int strokes = 0;
        for (int beat = 1; beat <= 500; beat++) {
            strokes += oneByOne.pass(1);
        }
        Check.same("the strokes at once", atOnce.pass(500), 3 + 18);
        Check.same("the strokes one by one", strokes, 3 + 18);
        for (MinsterClock clock : new MinsterClock[] {atOnce, oneByOne}) {
            Check.same("beats", clock.beats(), 500L);
            Check.same("the wheel 0", clock.moved(0), 500);
            Check.same("the hands", clock.shown() + " " + Clocks.time(clock), "10000 2:46");
            Check.same("the marks", clock.strikes() + " " + clock.markAt(0), "11 11");
            Check.same("the bells", clock.strokes(0) + " " + clock.strokes(1), "3 18");
        }
        atOnce.pass(4000);
        Check.same("the date, behind 90000 seconds", atOnce.shown() + " " + Clocks.date(atOnce), "90000 2000-1-2 6");
    }

    private static void beatsThatPass() {
        MinsterClock clock = new MinsterClock();
        Check.same("1 beat", Clocks.shownBehind(clock, 1), 1);
        Check.same("5000 beats", Clocks.shownBehind(clock, 5000), 5001);
        Check.same("4999 beats", Clocks.shownBehind(clock, 4999), 10000);
        for (int beats : new int[] {0, 5001}) {
            Check.fails(beats + " beats", ARGUMENT, () -> clock.pass(beats));
        }
        Check.same("as many beats", clock.beats(), 10000L);
    }

    private static void strokesThatPass() {
        MinsterClock clock = new MinsterClock();
        Check.same("none up to 899", clock.pass(899), 0);
        Check.same("1 at 900", clock.pass(1), 1);
        Check.same("none at 901: those before do not count", clock.pass(1), 0);
        Check.same("2 and 3 up to 3599", clock.pass(2698), 5);
        Check.same("1 at 3600", clock.pass(1), 1);
        MinsterClock most = Clocks.loudest();
        most.setBeat(20, 1);
        // 111 marks: 27 hours of them full ones, 12 twice from 1 to 12 and then 1, 2, 3; 84 quarters, 28 of each kind.
        Check.same("the most that one call can bring", most.pass(5000), 2 * 78 + 6 + 28 * 6 + 27 * 256);
    }

    private static void wrongBeats() {
        for (int beats : new int[] {0, 5001, -1, Integer.MIN_VALUE, Integer.MAX_VALUE}) {
            Twins.refuses("pass(" + beats + ")", Clocks::live, ARGUMENT, clock -> clock.pass(beats));
        }
        MinsterClock clock = Clocks.at(899);
        Check.fails("no beat at the edge of a mark", ARGUMENT, () -> clock.pass(0));
        Check.same("the mark is still to come", clock.pass(1), 1);
    }

    private static void beatsSoFar() {
        MinsterClock clock = new MinsterClock();
        Check.same("none yet", clock.beats(), 0L);
        clock.pass(1);
        Check.same("one", clock.beats(), 1L);
        clock.pass(5000);
        clock.pass(5000);
        Check.same("all of all calls", clock.beats(), 10001L);
        Check.fails("beats that are refused", ARGUMENT, () -> clock.pass(5001));
        Check.same("do not count", clock.beats(), 10001L);
    }

    private static void beatsAndNotSeconds() {
        MinsterClock clock = Clocks.owing(60);
        clock.setBeat(1, 20);
        clock.pass(19);
        Check.same("beats that bring no second yet", clock.beats(), 19L);
        clock.setBeat(20, 1);
        clock.pass(3);
        Check.same("beats of 20 seconds, and a correction", clock.beats(), 22L);
    }

    private static void shownAndNotPassed() {
        MinsterClock clock = Clocks.owing(7);
        Check.same("60 passed, 5 corrected", Clocks.shownBehind(clock, 60), 65);
        Check.same("115 passed, 7 corrected", Clocks.shownBehind(clock, 55), 122);
        Check.same("nobody moves it by asking", clock.shown(), 122);
        Check.same("the time is of this number", Clocks.time(clock), "0:2");
        clock.setDate(2024, 2, 29);
        Check.same("nor does another date", clock.shown(), 122);
        clock.setBeat(1, 2);
        Check.same("a half more is not shown", Clocks.shownBehind(clock, 1), 122);
        Check.same("a whole one is", Clocks.shownBehind(clock, 1), 123);
    }

    private static void hourShown() {
        MinsterClock noon = Clocks.at(13 * 3600);
        Check.same("13, and not 1 as it strikes", noon.hour(), 13);
        Check.same("1 of the next day, and not 25", Clocks.at(25 * 3600).hour(), 1);
        MinsterClock back = Clocks.at(7199);
        back.owe(-2);
        back.pass(1);
        Check.same("back below 2:00", back.hour(), 1);
        back.pass(1);
        Check.same("still below it", back.hour(), 1);
        back.pass(1);
        Check.same("2:00 for good", back.hour(), 2);
        MinsterClock forward = Clocks.at(3539);
        forward.setBound(30);
        forward.owe(30);
        forward.pass(1 + 29);
        Check.same("3540, 30 on and 29 more: 0:59:59", forward.hour(), 0);
        forward.pass(1);
        Check.same("1:00, 3570 seconds behind the beginning", forward.hour(), 1);
    }

    private static void minuteShown() {
        Check.same("0 of the hour 1, and not 60", Clocks.at(3600).minute(), 0);
        Check.same("30 of the hour 13", Clocks.at(13 * 3600 + 30 * 60).minute(), 30);
        MinsterClock back = Clocks.at(119);
        back.owe(-2);
        back.pass(1);
        Check.same("back below 0:02", back.minute(), 1);
        back.pass(2);
        Check.same("0:02 for good", back.minute(), 2);
        MinsterClock forward = Clocks.at(59);
        forward.setBound(30);
        forward.owe(30);
        forward.pass(1 + 29);
        Check.same("60, 30 on and 29 more: 0:01:59", forward.minute(), 1);
        forward.pass(1);
        Check.same("0:02, 90 seconds behind the beginning", forward.minute(), 2);
    }

    private static void secondsShown() {
        MinsterClock clock = new MinsterClock();
        Check.same("nothing yet", clock.shown(), 0);
        clock.pass(59);
        Check.same("59", clock.shown(), 59);
        clock.owe(-5);
        clock.pass(1);
        Check.same("with its correction", clock.shown(), 55);
        clock.pass(5);
        Check.same("60", clock.shown(), 60);
        Check.same("it does not begin again with a day", Clocks.at(172800).shown(), 172800);
    }

    private static void hours() {
        for (int hour = 0; hour <= 23; hour++) {
            MinsterClock clock = Clocks.at(hour * 3600);
            Check.same("the hour at its beginning", clock.hour(), hour);
            clock.pass(3599);
            Check.same("the hour at its end", clock.hour(), hour);
            clock.pass(1);
            Check.same("the next hour", clock.hour(), hour == 23 ? 0 : hour + 1);
        }
        MinsterClock back = Clocks.at(86399);
        back.owe(-1);
        back.pass(1);
        Check.same("23 again, when it falls below midnight", back.hour(), 23);
    }

    private static void minutes() {
        for (int minute = 0; minute <= 59; minute++) {
            MinsterClock clock = Clocks.at(3600 + minute * 60);
            Check.same("the minute at its beginning", clock.minute(), minute);
            clock.pass(59);
            Check.same("the minute at its end", clock.minute(), minute);
            clock.pass(1);
            Check.same("the next minute", clock.minute(), minute == 59 ? 0 : minute + 1);
        }
    }
}
