import java.util.NoSuchElementException;

/** The sentences about marks and when they strike: promises 25 and 26, and their paragraphs of the terms. */
final class StrikesSentences {
    private static final Class<IllegalArgumentException> ARGUMENT = IllegalArgumentException.class;
    private static final Class<NoSuchElementException> ELEMENT = NoSuchElementException.class;
    private static final Class<ArithmeticException> ARITHMETIC = ArithmeticException.class;
    private static final String SILENCE = "The hours from a first one up to, but not including, another one are silent;"
            + " going on from 23 to 0 if the first one is greater, and none if both are the same, as at first.";
    private static final int[] NO_HOURS = {-1, 24, 25, Integer.MIN_VALUE, Integer.MAX_VALUE};
    private static final int MARKS_OF_A_DAY = 96;

    private StrikesSentences() {
    }

    static void test(Sentences s) {
        s.terms(33, "Each hour is struck once.", StrikesSentences::eachHourOnce);
        s.terms(10, "The mark m is reached when a second that passes makes the number that is shown 900 m, and no mark"
                + " with this number or a greater one was reached before; the mark 0 counts as reached at first.",
                () -> {
                    reachedAt900();
                    reachedOnce();
                });
        s.terms(38, "the mark 0 counts as reached at first.", StrikesSentences::mark0);
        s.terms(25, "The hour of a mark is that which is shown then.", StrikesSentences::hourOfMark);
        s.terms(33, "A mark that is reached strikes, unless its hour is silent.", StrikesSentences::unlessSilent);
        s.terms(32, "At a full hour, the bell 0 has 1 to 12 strokes, as the hour is counted from 1 to 12; then, if"
                + " there is a tune for this hour of the day, it is played.", StrikesSentences::fullHours);
        s.terms(31, "then, if there is a tune for this hour of the day, it is played.", StrikesSentences::tunesOfHours);
        s.terms(26, "At the quarters 1, 2 and 3 of an hour, the bell 1 has as many strokes, if the quarters are on, and"
                + " otherwise nothing strikes.", StrikesSentences::quarters);
        s.terms(25, SILENCE, StrikesSentences::silentHours);
        s.terms(25, SILENCE, StrikesSentences::noneSilentAtFirst);
        s.terms(26, "While the quarters are off, the mark of a quarter is reached, but it has not struck: it is neither"
                + " in the log nor counted among the marks that struck; so it is for a mark whose hour is silent.",
                () -> {
                    reachedButNotStruck(clock -> clock.setQuarters(false));
                    reachedButNotStruck(clock -> clock.setSilence(0, 1));
                });
        s.promise(25, "Sets the silent hours.", StrikesSentences::setsSilentHours);
        s.promise(25, "`from`: the first silent hour, 0 to 23", StrikesSentences::firstSilentHour);
        s.promise(25, "`to`: the hour that is not silent any more, 0 to 23", StrikesSentences::firstLoudHour);
        s.promise(25, "Returns the number of silent hours.", StrikesSentences::numberOfSilentHours);
        s.promise(25, "Throws `IllegalArgumentException` if an hour is out of range", StrikesSentences::noHour);
        s.promise(26, "Sets whether the quarters are on; at first they are.", StrikesSentences::quartersAtFirst);
        s.promise(26, "`isOn`: whether they are on from now on", StrikesSentences::onFromNowOn);
        s.promise(26, "Returns whether they were on before.", StrikesSentences::quartersBefore);
    }

    /** The strokes of a mark that strikes, as the document tells them, without a tune. */
    private static int strokesOf(int mark) {
        int hour = mark / 4 % 24;
        if (mark % 4 != 0) {
            return mark % 4;
        }
        return hour == 0 ? 12 : hour > 12 ? hour - 12 : hour;
    }

    private static void eachHourOnce() {
        MinsterClock clock = new MinsterClock();
        clock.setQuarters(false);
        clock.setBound(30);
        for (int hour = 1; hour <= 25; hour++) {
            Check.same("nothing before the hour " + hour, clock.pass(3599), 0);
            clock.owe(-60);
            Check.same("the hour " + hour, clock.pass(1), strokesOf(4 * hour));
            // By 30 below it twice, so that it comes twice more.
            Check.same("the hour " + hour + " comes again", clock.pass(30), 0);
            Check.same("the hour " + hour + " comes for good", clock.pass(30), 0);
            Check.same("it is shown", clock.shown(), 3600 * hour);
            Check.same("struck once each", clock.strikes(), hour);
        }
    }

    private static void reachedAt900() {
        MinsterClock clock = new MinsterClock();
        for (int mark = 1; mark <= 5; mark++) {
            Check.same("a second before the mark " + mark, clock.pass(899), 0);
            Check.same("strikes before it", clock.strikes(), mark - 1);
            Check.same("the mark " + mark, clock.pass(1), strokesOf(mark));
            Check.same("its number", clock.markAt(0), mark);
            Check.same("strikes with it", clock.strikes(), mark);
        }
        MinsterClock beat = Clocks.at(899);
        beat.setBeat(20, 1);
        Check.same("a mark within a beat", beat.pass(1), 1);
        Check.same("the beat goes on behind it", beat.shown(), 919);
    }

    private static void reachedOnce() {
        MinsterClock clock = Clocks.at(899);
        clock.setBound(30);
        clock.owe(-90);
        Check.same("the mark 1", clock.pass(1), 1);
        Check.same("below it", clock.shown(), 870);
        for (int time = 2; time <= 3; time++) {
            Check.same("900 once more", clock.pass(30), 0);
            Check.same("below it again", clock.shown(), 870);
        }
        Check.same("900 for good", clock.pass(30), 0);
        Check.same("at it", clock.shown(), 900);
        Check.same("struck once", clock.strikes(), 1);
        Check.same("the next one comes", clock.pass(900), 2);
        Check.same("it is the mark 2", clock.markAt(0), 2);
        // A mark that was reached but silent is not struck when it comes once more.
        MinsterClock silent = Clocks.at(899);
        silent.setSilence(0, 1);
        silent.owe(-5);
        silent.pass(1);
        silent.setSilence(0, 0);
        Check.same("silent, and then not reached again", silent.pass(5), 0);
        Check.same("shown once more", silent.shown(), 900);
        MinsterClock forward = Clocks.at(840);
        forward.setBound(30);
        forward.owe(30);
        forward.pass(60);
        Check.same("900, and 30 on", forward.shown(), 930);
        Check.same("reached by the second, not by the correction", forward.markAt(0), 1);
    }

    private static void mark0() {
        MinsterClock clock = new MinsterClock();
        Check.same("it has not struck", clock.strikes(), 0);
        Check.same("nor has its bell", clock.strokes(0), 0);
        Check.fails("it is not in the log", ELEMENT, () -> clock.markAt(0));
        Check.fails("it has no strokes", ELEMENT, () -> clock.strokesAt(0));
        Check.fails("no other is reached", ARITHMETIC, clock::struckShare);
        Check.same("it does not strike later", clock.pass(899), 0);
        Check.fails("no other is reached at 899", ARITHMETIC, clock::struckShare);
        Check.same("the mark 1 is the first", clock.pass(1), 1);
        Check.same("the mark 1 is the first", clock.struckShare(), 1.0f);
    }

    private static void hourOfMark() {
        // The silent hour, the last second before the mark, and the strokes of the mark.
        int[][] rows = {{0, 2699, 0}, {0, 3599, 1}, {1, 2699, 3}, {1, 3599, 0}, {1, 4499, 0}, {23, 86399, 12},
            {23, 85499, 0}, {0, 86399, 0}, {0, 87299, 0}, {0, 85499, 3}, {22, 82799, 11}, {23, 82799, 0}};
        for (int[] row : rows) {
            MinsterClock clock = Clocks.at(row[1]);
            clock.setSilence(row[0], (row[0] + 1) % 24);
            String told = "silent " + row[0] + ", the mark behind " + row[1];
            Check.same(told + ", minute by minute", clock.strokesAhead(1), row[2]);
            Check.same(told + ", beat by beat", clock.strokesByBeats(1), row[2]);
            Check.same(told, clock.pass(1), row[2]);
        }
        MinsterClock back = Clocks.at(3599);
        back.setSilence(0, 1);
        back.owe(-5);
        Check.same("the hour 1, though the hour 0 is shown when it is over", back.pass(1), 1);
        Check.same("the hour 0 is shown", back.hour(), 0);
    }

    private static void unlessSilent() {
        MinsterClock clock = Clocks.byMarks();
        int strikes = 0;
        for (int mark = 1; mark <= 2 * MARKS_OF_A_DAY; mark++) {
            boolean isSilent = mark / 4 % 24 == 5;
            if (mark % 4 == 0) {
                clock.setSilence(isSilent ? 5 : 6, 6);
            }
            Check.same("the mark " + mark, clock.pass(45), isSilent ? 0 : strokesOf(mark));
            strikes += isSilent ? 0 : 1;
        }
        Check.same("marks that struck", clock.strikes(), strikes);
        Check.same("8 did not", strikes, 2 * MARKS_OF_A_DAY - 8);
    }

    private static void fullHours() {
        MinsterClock clock = Clocks.byMarks();
        clock.setQuarters(false);
        int[] due = {1, 2, 3, 4, 5, 6, 7, 8, 9, 10, 11, 12, 1, 2, 3, 4, 5, 6, 7, 8, 9, 10, 11, 12, 1};
        int sum = 0;
        for (int hour = 1; hour <= 25; hour++) {
            Check.same("the strokes of the hour " + hour % 24, clock.pass(180), due[hour - 1]);
            sum += due[hour - 1];
            Check.same("all of the bell 0", clock.strokes(0), sum);
            Check.same("none of the bell 1", clock.strokes(1), 0);
        }
    }

    private static void tunesOfHours() {
        for (int hour = 0; hour <= 23; hour++) {
            MinsterClock clock = Clocks.withDrums(1);
            clock.setPin(0, 0, 8, true);
            clock.setPin(0, 31, 8, true);
            clock.setTune(hour, 0);
            clock.setBeat(20, 1);
            for (int mark = 1; mark <= MARKS_OF_A_DAY; mark++) {
                boolean isTune = mark % 4 == 0 && mark / 4 % 24 == hour;
                int due = strokesOf(mark) + (isTune ? 2 : 0);
                Check.same("the tune of " + hour + ", mark " + mark, clock.pass(45), due);
            }
            Check.same("the tune of " + hour + " is played once a day", clock.strokes(8), 2);
        }
        MinsterClock silent = Clocks.withDrums(1);
        silent.setPin(0, 0, 8, true);
        silent.setTune(1, 0);
        silent.setSilence(1, 2);
        silent.pass(3600);
        Check.same("no tune in a silent hour", silent.strokes(8), 0);
    }

    private static void quarters() {
        MinsterClock clock = Clocks.byMarks();
        int sum = 0;
        for (int mark = 1; mark <= MARKS_OF_A_DAY + 3; mark++) {
            Check.same("on, the mark " + mark, clock.pass(45), strokesOf(mark));
            sum += mark % 4;
            Check.same("on, the bell 1 by the mark " + mark, clock.strokes(1), sum);
        }
        MinsterClock off = Clocks.byMarks();
        off.setQuarters(false);
        for (int mark = 1; mark <= MARKS_OF_A_DAY + 3; mark++) {
            Check.same("off, the mark " + mark, off.pass(45), mark % 4 == 0 ? strokesOf(mark) : 0);
        }
        Check.same("off, the bell 1", off.strokes(1), 0);
        MinsterClock late = Clocks.at(899);
        late.setQuarters(false);
        Check.same("off just before one", late.pass(1), 0);
        late.setQuarters(true);
        Check.same("on just behind one", late.pass(1), 0);
        late.pass(898);
        late.setQuarters(false);
        late.setQuarters(true);
        Check.same("on just before one", late.pass(1), 2);
    }

    private static void silentHours() {
        // From, to, and how many are silent.
        int[][] rows = {{22, 6, 8}, {6, 22, 16}, {0, 1, 1}, {0, 23, 23}, {23, 0, 1}, {23, 22, 23}, {1, 0, 23},
            {12, 13, 1}, {0, 0, 0}, {23, 23, 0}, {12, 12, 0}, {11, 12, 1}};
        for (int[] row : rows) {
            MinsterClock clock = Clocks.byMarks();
            String told = "from " + row[0] + " to " + row[1];
            Check.same(told, clock.setSilence(row[0], row[1]), row[2]);
            for (int mark = 1; mark <= MARKS_OF_A_DAY; mark++) {
                int hoursOn = (mark / 4 - row[0] + 24) % 24;
                Check.same(told + ", the mark " + mark, clock.pass(45), hoursOn < row[2] ? 0 : strokesOf(mark));
            }
        }
    }

    private static void noneSilentAtFirst() {
        MinsterClock clock = Clocks.byMarks();
        for (int mark = 1; mark <= MARKS_OF_A_DAY; mark++) {
            Check.same("the mark " + mark, clock.pass(45), strokesOf(mark));
        }
        Check.same("all struck", clock.strikes(), MARKS_OF_A_DAY);
    }

    private static void reachedButNotStruck(Twins.Step still) {
        MinsterClock clock = new MinsterClock();
        clock.pass(900);
        still.on(clock);
        Check.same("the mark 2 is still", clock.pass(900), 0);
        Check.same("not counted", clock.strikes(), 1);
        Check.same("not the latest of the log", clock.markAt(0), 1);
        Check.fails("not in the log", ELEMENT, () -> clock.markAt(1));
        Check.fails("without strokes", ELEMENT, () -> clock.strokesAt(2));
        Check.same("but reached", clock.struckShare(), 0.5f);
        clock.pass(899);
        clock.owe(-5);
        Check.same("the mark 3 is still", clock.pass(1), 0);
        clock.setQuarters(true);
        clock.setSilence(0, 0);
        Check.same("it comes once more, and was reached before", clock.pass(5), 0);
        Check.same("the share", clock.struckShare(), 1f / 3f);
    }

    private static void setsSilentHours() {
        MinsterClock clock = Clocks.byMarks();
        clock.setSilence(1, 3);
        Check.same("the hour 0 is not silent: 1 + 2 + 3", clock.pass(45 * 3), 6);
        Check.same("the hours 1 and 2 are", clock.pass(45 * 8), 0);
        Check.same("the hour 3 is not", clock.pass(45), 3);
        clock.setSilence(4, 5);
        clock.setSilence(5, 6);
        Check.same("the latest ones count: the hour 4 is not silent", clock.pass(45 * 4), 6 + 4);
        Check.same("up to its end", clock.pass(45 * 3), 6);
        Check.same("the hour 5 is", clock.pass(45 * 4), 0);
        Check.same("what was silent stays unstruck", clock.strikes(), 3 + 1 + 4 + 3);
        Check.same("the hours alone", clock.strokes(0), 3 + 4);
        clock.setSilence(6, 8);
        Check.same("from now on", clock.pass(45), 0);
        clock.setSilence(0, 0);
        Check.same("and not any more", clock.pass(45 * 2), 1 + 2);
    }

    private static void firstSilentHour() {
        for (int from : new int[] {0, 1, 22, 23}) {
            MinsterClock clock = Clocks.at(from * 3600);
            Check.same("from " + from, clock.setSilence(from, (from + 1) % 24), 1);
            Check.same("it is silent", clock.pass(900), 0);
            clock.pass(1800);
            Check.same("to its end", clock.strikes(), from * 4);
            Check.same("the next one is not", clock.pass(900), strokesOf(from * 4 + 4));
        }
        for (int from : NO_HOURS) {
            Twins.refuses("from " + from, Clocks::live, ARGUMENT, clock -> clock.setSilence(from, 7));
        }
    }

    private static void firstLoudHour() {
        for (int to : new int[] {0, 1, 22, 23}) {
            MinsterClock clock = Clocks.at((to + 23) % 24 * 3600);
            Check.same("to " + to, clock.setSilence((to + 12) % 24, to), 12);
            Check.same("the last silent one", clock.pass(3599), 0);
            Check.same("it is not silent", clock.pass(1), to == 0 ? 12 : strokesOf(to * 4));
            Check.same("nor its quarter", clock.pass(900), 1);
        }
        for (int to : NO_HOURS) {
            Twins.refuses("to " + to, Clocks::live, ARGUMENT, clock -> clock.setSilence(7, to));
        }
    }

    private static void numberOfSilentHours() {
        for (int from = 0; from <= 23; from++) {
            MinsterClock clock = new MinsterClock();
            int due = 0;
            int to = from;
            do {
                Check.same("from " + from + " to " + to, clock.setSilence(from, to), due);
                due++;
                to = to == 23 ? 0 : to + 1;
            } while (to != from);
        }
    }

    private static void noHour() {
        for (int wrong : NO_HOURS) {
            Twins.refuses("setSilence(" + wrong + ", 0)", Clocks::live, ARGUMENT, clock -> clock.setSilence(wrong, 0));
            Twins.refuses("setSilence(0, " + wrong + ")", Clocks::live, ARGUMENT, clock -> clock.setSilence(0, wrong));
            Twins.refuses("setSilence twice " + wrong, Clocks::live, ARGUMENT, clock -> clock.setSilence(wrong, wrong));
        }
        MinsterClock clock = new MinsterClock();
        Check.same("setSilence(0, 23)", clock.setSilence(0, 23), 23);
        Check.same("setSilence(23, 0)", clock.setSilence(23, 0), 1);
        Check.same("setSilence(23, 23)", clock.setSilence(23, 23), 0);
    }

    private static void quartersAtFirst() {
        MinsterClock clock = new MinsterClock();
        Check.same("on at first, as they strike", clock.pass(900), 1);
        clock.setQuarters(false);
        Check.same("off", clock.pass(900), 0);
        clock.setQuarters(true);
        Check.same("on again", clock.pass(900), 3);
    }

    private static void onFromNowOn() {
        MinsterClock clock = Clocks.byMarks();
        clock.setQuarters(false);
        Check.same("off, the first hour", clock.pass(45 * 4), 1);
        Check.same("off stays off", clock.pass(45 * 4), 2);
        clock.setQuarters(true);
        Check.same("those that were off do not strike later", clock.strokes(1), 0);
        Check.same("on, the third hour", clock.pass(45 * 4), 1 + 2 + 3 + 3);
        Check.same("on stays on", clock.pass(45 * 4), 1 + 2 + 3 + 4);
        clock.setQuarters(true);
        Check.same("on once more is still on", clock.pass(45), 1);
        clock.setQuarters(false);
        clock.setQuarters(false);
        Check.same("off twice is still off", clock.pass(45 * 3), 5);
        Check.same("those that were struck stay struck", clock.strokes(1), 6 + 6 + 1);
        Check.same("another clock has its own", Clocks.struck(3).strokes(1), 6);
    }

    private static void quartersBefore() {
        MinsterClock clock = new MinsterClock();
        Check.same("on at first", clock.setQuarters(true), true);
        Check.same("on", clock.setQuarters(false), true);
        Check.same("off", clock.setQuarters(false), false);
        Check.same("still off", clock.setQuarters(true), false);
        Check.same("on", clock.setQuarters(true), true);
    }
}
