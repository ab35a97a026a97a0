import java.lang.reflect.Field;
import java.util.List;
import java.util.NoSuchElementException;

/** The sentences about strokes, the log and what is found ahead: promises 32 to 39, and the paragraph 'Log'. */
final class LogSentences {
    private static final Class<IllegalArgumentException> ARGUMENT = IllegalArgumentException.class;
    private static final Class<IndexOutOfBoundsException> INDEX = IndexOutOfBoundsException.class;
    private static final Class<NoSuchElementException> ELEMENT = NoSuchElementException.class;
    private static final Class<ArithmeticException> ARITHMETIC = ArithmeticException.class;
    private static final int[] NO_BEATS = {0, 5001, -1, Integer.MIN_VALUE, Integer.MAX_VALUE};
    private static final String BEATS = "`beats`: the number of beats, 1 to 5000";
    private static final String NO_NUMBER = "Throws `IllegalArgumentException` if the number is out of range";

    /** One of the two ways to find the strokes ahead. */
    private interface Way {
        int find(MinsterClock clock, int beats);
    }

    private static final Way BY_MINUTES = MinsterClock::strokesAhead;
    private static final Way BY_BEATS = MinsterClock::strokesByBeats;

    private LogSentences() {
    }

    static void test(Sentences s) {
        s.terms(34, "The latest 40 marks that struck are kept, with their strokes.", LogSentences::latest40);
        s.terms(35, "The latest 40 marks that struck are kept, with their strokes.", LogSentences::strokesOfLatest40);
        s.promise(32, "Returns how many strokes a bell has had.", LogSentences::strokesHad);
        s.promise(32, "`bell`: the bell, 0 to 8", LogSentences::bells);
        s.promise(32, "Returns the number of strokes.", LogSentences::strokesOfBells);
        s.promise(32, "Throws `IndexOutOfBoundsException` if there is no such bell", LogSentences::noSuchBell);
        s.promise(33, "Returns the number of marks that struck.", LogSentences::marksThatStruck);
        s.promise(33, "Returns the number of marks.", LogSentences::moreThanAreKept);
        s.promise(34, "Returns a mark of the log.", LogSentences::marksOfTheLog);
        s.promise(34, "`rank`: the rank, 0 for the latest one", LogSentences::ranks);
        s.promise(34, "Returns the number of the mark.", LogSentences::numbersOfMarks);
        s.promise(34, "Throws `NoSuchElementException` if there is no such rank among those that are kept",
                LogSentences::noSuchRank);
        s.promise(35, "Returns the strokes of a mark of the log.", LogSentences::strokesInTheLog);
        s.promise(35, "`mark`: the number of the mark", LogSentences::marksByTheirNumbers);
        s.promise(35, "Returns the number of strokes, those of a tune included.", LogSentences::strokesOfMarks);
        s.promise(35, "Throws `NoSuchElementException` if the mark is not among those that are kept",
                LogSentences::noSuchMark);
        testAhead(s);
        s.promise(38, "Returns the share of the marks that were reached that struck.", LogSentences::shareOfReached);
        s.promise(38, "Returns the number of marks that struck divided by the greatest number of a mark that was"
                + " reached, both converted to float.", LogSentences::share);
        s.promise(38, "Throws `ArithmeticException` if no mark but the mark 0 was reached", LogSentences::noShare);
        s.promise(39, "Returns whether each hour is struck once: the marks of the log fall from rank to rank; the"
                + " strokes and the movement of the last wheel are the same by both ways for 1, 60 and 700 beats; and"
                + " the strokes of all bells together are those of all strikes so far.", LogSentences::onceAtTheEnds);
        s.promise(39, "Returns whether this holds.", LogSentences::soundAndSpoilt);
    }

    private static void testAhead(Sentences s) {
        s.terms(36, "What the next beats bring is found minute by minute, and beat by beat.", LogSentences::bothWays);
        s.promise(36, BEATS, () -> beatsAtTheEnds(BY_MINUTES));
        s.promise(36, "Returns the number of strokes that the next beats will bring, found minute by minute.",
                () -> strokesToCome(BY_MINUTES));
        s.promise(36, "Returns the number of strokes.", () -> leastAndMost(BY_MINUTES));
        s.promise(36, NO_NUMBER, () -> noSuchBeats("strokesAhead", BY_MINUTES));
        s.promise(37, BEATS, () -> beatsAtTheEnds(BY_BEATS));
        s.promise(37, "Returns the same number, found beat by beat, and second by second.", () -> {
            strokesToCome(BY_BEATS);
            bothWays();
        });
        s.promise(37, "Returns the number of strokes.", () -> leastAndMost(BY_BEATS));
        s.promise(37, NO_NUMBER, () -> noSuchBeats("strokesByBeats", BY_BEATS));
    }

    private static void latest40() {
        for (int marks : new int[] {0, 1, 2, 39, 40, 41, 42, 79, 80, 81, 100}) {
            MinsterClock clock = Clocks.struck(marks);
            int kept = Math.min(marks, 40);
            for (int rank = 0; rank < kept; rank++) {
                Check.same(marks + " marks, the rank " + rank, clock.markAt(rank), marks - rank);
            }
            Check.fails(marks + " marks, the rank " + kept, ELEMENT, () -> clock.markAt(kept));
            Check.fails(marks + " marks, the rank 40", ELEMENT, () -> clock.markAt(40));
        }
        MinsterClock silent = Clocks.struck(41);
        silent.setQuarters(false);
        silent.pass(45 * 2);
        Check.same("a mark that does not strike moves none out", silent.markAt(39), 2);
        silent.pass(45);
        Check.same("one that strikes does", silent.markAt(39), 3);
        Check.same("it is the latest", silent.markAt(0), 44);
        Check.same("the quarters in between are not kept", silent.markAt(1), 41);
    }

    private static void strokesOfLatest40() {
        for (int marks : new int[] {1, 39, 40, 41, 42, 80, 81}) {
            MinsterClock clock = Clocks.struck(marks);
            for (int mark = Math.max(1, marks - 39); mark <= marks; mark++) {
                int hour = mark / 4;
                int due = mark % 4 != 0 ? mark % 4 : hour > 12 ? hour - 12 : hour;
                Check.same(marks + " marks, the strokes of " + mark, clock.strokesAt(mark), due);
            }
            int gone = Math.max(0, marks - 40);
            Check.fails("the one before the eldest of " + marks, ELEMENT, () -> clock.strokesAt(gone));
            Check.fails("one behind the latest of " + marks, ELEMENT, () -> clock.strokesAt(marks + 1));
        }
    }

    private static void strokesHad() {
        MinsterClock clock = Clocks.withDrums(1);
        clock.setPin(0, 0, 1, true);
        clock.setPin(0, 9, 1, true);
        clock.setPin(0, 9, 4, true);
        clock.setTune(2, 0);
        clock.pass(3600);
        Check.same("0 at the hour", clock.strokes(0), 1);
        Check.same("1 at the quarters", clock.strokes(1), 6);
        clock.pass(3600);
        Check.same("0, all hours together", clock.strokes(0), 1 + 2);
        Check.same("1 by quarters and by pins", clock.strokes(1), 6 + 6 + 2);
        Check.same("4 by a pin", clock.strokes(4), 1);
        clock.setPin(0, 9, 4, false);
        clock.setTune(2, -1);
        clock.setSilence(0, 23);
        clock.setQuarters(false);
        Check.same("what it has had it keeps", clock.strokes(4) + " " + clock.strokes(1), "1 14");
        Check.same("another clock has its own", new MinsterClock().strokes(1), 0);
    }

    private static void bells() {
        MinsterClock clock = Clocks.withDrums(1);
        clock.setPin(0, 0, 8, true);
        clock.setTune(1, 0);
        clock.pass(3600);
        Check.same("the bell 0", clock.strokes(0), 1);
        Check.same("the bell 1", clock.strokes(1), 6);
        Check.same("the bell 7", clock.strokes(7), 0);
        Check.same("the bell 8", clock.strokes(8), 1);
        for (int bell : new int[] {-1, 9}) {
            Check.fails("the bell " + bell, INDEX, () -> clock.strokes(bell));
        }
    }

    private static void strokesOfBells() {
        MinsterClock clock = new MinsterClock();
        for (int bell = 0; bell <= 8; bell++) {
            Check.same("none yet, " + bell, clock.strokes(bell), 0);
        }
        clock.strokesAhead(5000);
        clock.strokesByBeats(5000);
        Check.same("none by asking ahead", clock.strokes(1), 0);
        clock.pass(899);
        Check.same("none at 899", clock.strokes(1), 0);
        clock.pass(1);
        Check.same("one at 900", clock.strokes(1), 1);
        MinsterClock days = Clocks.struck(960);
        Check.same("10 days, the hours", days.strokes(0), 1560);
        Check.same("10 days, the quarters", days.strokes(1), 1440);
        Check.same("10 days, no tune", days.strokes(2), 0);
    }

    private static void noSuchBell() {
        for (int bell : new int[] {-1, 9, 10, Integer.MIN_VALUE, Integer.MAX_VALUE}) {
            Twins.refuses("strokes(" + bell + ")", Clocks::live, INDEX, clock -> clock.strokes(bell));
        }
        Check.same("the bell 0", new MinsterClock().strokes(0), 0);
        Check.same("the bell 8", new MinsterClock().strokes(8), 0);
    }

    private static void marksThatStruck() {
        MinsterClock clock = new MinsterClock();
        Check.same("none yet", clock.strikes(), 0);
        clock.pass(899);
        Check.same("none at 899", clock.strikes(), 0);
        clock.pass(1);
        Check.same("one at 900", clock.strikes(), 1);
        clock.pass(900);
        Check.same("the mark 2 counts 1, not its 2 strokes", clock.strikes(), 2);
        clock.setQuarters(false);
        clock.pass(900);
        Check.same("a quarter while they are off does not count", clock.strikes(), 2);
        clock.setSilence(1, 2);
        clock.pass(900);
        Check.same("a silent hour does not count", clock.strikes(), 2);
        clock.strokesAhead(5000);
        clock.strokesByBeats(5000);
        Check.same("nor what is asked ahead", clock.strikes(), 2);
    }

    private static void moreThanAreKept() {
        for (int marks : new int[] {0, 1, 39, 40, 41, 80, 81, 5000}) {
            Check.same(marks + " marks", Clocks.struck(marks).strikes(), marks);
        }
    }

    private static void marksOfTheLog() {
        MinsterClock clock = Clocks.byMarks();
        clock.pass(45 * 3);
        clock.setQuarters(false);
        clock.pass(45 * 6);
        clock.setQuarters(true);
        clock.pass(45);
        int[] due = {10, 8, 4, 3, 2, 1};
        for (int rank = 0; rank < due.length; rank++) {
            Check.same("those that struck alone, the rank " + rank, clock.markAt(rank), due[rank]);
        }
        Check.fails("and no more", ELEMENT, () -> clock.markAt(due.length));
        Check.same("asking takes none away", clock.markAt(0), 10);
        clock.strokesAhead(5000);
        clock.strokesByBeats(5000);
        Check.same("nor do marks ahead come into it", clock.markAt(0), 10);
    }

    private static void ranks() {
        MinsterClock clock = Clocks.struck(5);
        Check.same("the rank 0", clock.markAt(0), 5);
        Check.same("the rank 4", clock.markAt(4), 1);
        Check.fails("the rank 5", ELEMENT, () -> clock.markAt(5));
        Check.fails("the rank -1", ELEMENT, () -> clock.markAt(-1));
        clock.pass(45);
        Check.same("the rank 0 is the latest", clock.markAt(0), 6);
        Check.same("the others move on", clock.markAt(5), 1);
    }

    private static void numbersOfMarks() {
        MinsterClock clock = Clocks.byMarks();
        clock.setQuarters(false);
        clock.setSilence(2, 4);
        clock.pass(180 * 5);
        Check.same("the hour 5", clock.markAt(0), 20);
        Check.same("the hour 4", clock.markAt(1), 16);
        Check.same("the hour 1, as 2 and 3 are silent", clock.markAt(2), 4);
        Check.fails("no other", ELEMENT, () -> clock.markAt(3));
        MinsterClock days = Clocks.struck(960);
        Check.same("it goes on behind a day", days.markAt(0), 960);
        Check.same("and down from there", days.markAt(39), 921);
    }

    private static void noSuchRank() {
        int[] wrong = {-1, 40, 41, Integer.MIN_VALUE, Integer.MAX_VALUE};
        for (int rank : wrong) {
            // A living clock has more marks than are kept.
            Twins.refuses("markAt(" + rank + ")", Clocks::live, ELEMENT, clock -> clock.markAt(rank));
            Check.fails("markAt(" + rank + ") of none", ELEMENT, () -> new MinsterClock().markAt(rank));
        }
        Check.fails("markAt(0) of none", ELEMENT, () -> new MinsterClock().markAt(0));
        Check.same("markAt(0) of one", Clocks.struck(1).markAt(0), 1);
        Check.fails("markAt(1) of one", ELEMENT, () -> Clocks.struck(1).markAt(1));
        Check.same("markAt(38) of 39", Clocks.struck(39).markAt(38), 1);
        Check.fails("markAt(39) of 39", ELEMENT, () -> Clocks.struck(39).markAt(39));
        Check.same("markAt(39) of 40", Clocks.struck(40).markAt(39), 1);
        Check.same("markAt(39) of 41", Clocks.struck(41).markAt(39), 2);
        Check.fails("markAt(40) of 41", ELEMENT, () -> Clocks.struck(41).markAt(40));
    }

    private static void strokesInTheLog() {
        MinsterClock clock = Clocks.withDrums(1);
        clock.setPin(0, 0, 1, true);
        clock.setTune(1, 0);
        clock.setBeat(20, 1);
        int[] due = {1, 2, 3, 1 + 1, 1, 2, 3, 2};
        for (int mark = 1; mark <= due.length; mark++) {
            int next = mark;
            Check.fails("not yet in the log, " + mark, ELEMENT, () -> clock.strokesAt(next));
            Check.same("as pass told, " + mark, clock.pass(45), due[mark - 1]);
            Check.same("the mark " + mark, clock.strokesAt(mark), due[mark - 1]);
        }
        for (int mark = 1; mark <= due.length; mark++) {
            Check.same("the mark " + mark + ", later", clock.strokesAt(mark), due[mark - 1]);
        }
    }

    private static void marksByTheirNumbers() {
        MinsterClock clock = Clocks.struck(60);
        Check.same("21 is the eldest, a quarter", clock.strokesAt(21), 1);
        Check.same("48 is the hour 12", clock.strokesAt(48), 12);
        Check.same("60 is the hour 15, as 3", clock.strokesAt(60), 3);
        Check.fails("0 is a rank, and no mark of the log", ELEMENT, () -> clock.strokesAt(0));
        Check.fails("12 is an hour, and no mark of the log", ELEMENT, () -> clock.strokesAt(12));
        Check.fails("39 + 60 is none", ELEMENT, () -> clock.strokesAt(99));
        clock.setQuarters(false);
        clock.pass(45 * 8);
        Check.same("68 is the hour 17, as 5", clock.strokesAt(68), 5);
        Check.fails("67 did not strike", ELEMENT, () -> clock.strokesAt(67));
        Check.fails("22 gave way to 68", ELEMENT, () -> clock.strokesAt(22));
        Check.same("23 is the eldest now", clock.strokesAt(23), 3);
    }

    private static void strokesOfMarks() {
        MinsterClock clock = Clocks.withDrums(1);
        for (int step = 0; step <= 31; step++) {
            clock.setPin(0, step, 1 + step % 8, true);
        }
        clock.setTune(1, 0);
        clock.setTune(12, 0);
        clock.setTune(0, 0);
        clock.setBeat(20, 1);
        clock.pass(45 * 13);
        Check.same("a quarter, the least", clock.strokesAt(1), 1);
        Check.same("the quarter 3", clock.strokesAt(3), 3);
        Check.same("the hour 1 and its tune", clock.strokesAt(4), 1 + 32);
        Check.same("a quarter plays no tune", clock.strokesAt(5), 1);
        Check.same("the hour 2 without a tune", clock.strokesAt(8), 2);
        clock.pass(45 * 35);
        Check.same("the hour 12 and its tune", clock.strokesAt(48), 12 + 32);
        clock.setTune(12, -1);
        clock.setPin(0, 0, 1, false);
        Check.same("as it struck then", clock.strokesAt(48), 12 + 32);
        clock.pass(45 * 48);
        Check.same("the hour 0 and its tune", clock.strokesAt(96), 12 + 31);
    }

    private static void noSuchMark() {
        MinsterClock none = new MinsterClock();
        for (int mark : new int[] {0, 1, -1, Integer.MIN_VALUE, Integer.MAX_VALUE}) {
            Check.fails("strokesAt(" + mark + ") of none", ELEMENT, () -> none.strokesAt(mark));
        }
        // A living clock has struck 70 marks, of which 31 to 70 are kept.
        for (int mark : new int[] {30, 71, 0, -1, -31, Integer.MIN_VALUE, Integer.MAX_VALUE}) {
            Twins.refuses("strokesAt(" + mark + ")", Clocks::live, ELEMENT, clock -> clock.strokesAt(mark));
        }
        MinsterClock live = new MinsterClock();
        Clocks.live(live);
        Check.same("the eldest", live.strokesAt(31), 3);
        Check.same("the latest", live.strokesAt(70), 2);
        MinsterClock off = Clocks.struck(1);
        off.setQuarters(false);
        off.pass(45);
        Check.fails("a mark that was reached, but did not strike", ELEMENT, () -> off.strokesAt(2));
        Check.same("one that did", off.strokesAt(1), 1);
    }

    private static void bothWays() {
        int[][] fractions = {{1, 1}, {1, 20}, {20, 1}, {7, 20}, {19, 3}};
        for (int[] fraction : fractions) {
            for (int owed : new int[] {0, 600, -600, 7, -7}) {
                for (int bound : new int[] {0, 1, 30}) {
                    bothWaysOf(fraction, owed, bound);
                }
            }
        }
    }

    private static void bothWaysOf(int[] fraction, int owed, int bound) {
        int[] beats = {1, 2, 44, 45, 46, 59, 60, 61, 479, 480, 481, 899, 900, 901, 4999, 5000};
        MinsterClock clock = shortlyBefore1(fraction, owed, bound);
        for (int ahead : beats) {
            int due = shortlyBefore1(fraction, owed, bound).pass(ahead);
            String told = ahead + " beats of " + fraction[0] + " / " + fraction[1] + ", owed " + owed + ", bound "
                    + bound;
            Check.same(told + ", minute by minute", clock.strokesAhead(ahead), due);
            Check.same(told + ", beat by beat", clock.strokesByBeats(ahead), due);
        }
    }

    private static MinsterClock shortlyBefore1(int[] fraction, int owed, int bound) {
        MinsterClock clock = Clocks.at(3570);
        clock.setBeat(fraction[0], fraction[1]);
        clock.owe(owed);
        clock.setBound(bound);
        return clock;
    }

    private static void beatsAtTheEnds(Way way) {
        MinsterClock clock = new MinsterClock();
        Check.same("1 beat", way.find(clock, 1), 0);
        Check.same("5000 beats: 1 + 2 + 3 + 1 + 1", way.find(clock, 5000), 8);
        for (int beats : NO_BEATS) {
            Check.fails(beats + " beats", ARGUMENT, () -> way.find(clock, beats));
        }
        clock.pass(899);
        Check.same("1 beat to a mark", way.find(clock, 1), 1);
        clock.pass(400);
        Check.same("5000 beats to just before the mark 7", way.find(clock, 5000), 2 + 3 + 1 + 1 + 2);
        clock.pass(1);
        Check.same("5000 beats to the mark 7", way.find(clock, 5000), 2 + 3 + 1 + 1 + 2 + 3);
    }

    private static void strokesToCome(Way way) {
        MinsterClock clock = new MinsterClock();
        Check.same("899 beats", way.find(clock, 899), 0);
        Check.same("900 beats", way.find(clock, 900), 1);
        clock.setBeat(1, 20);
        clock.pass(19);
        clock.setBeat(7, 20);
        clock.pass(2);
        // With the 14 / 20 that are kept 2569 beats come to 899.85 seconds, and 2570 to 900.2.
        Check.same("what is kept counts, 2569 beats", way.find(clock, 2569), 0);
        Check.same("what is kept counts, 2570 beats", way.find(clock, 2570), 1);
        clock.setBeat(1, 1);
        clock.owe(30);
        clock.setBound(30);
        // 60 becomes 90, so that the mark comes 30 beats sooner.
        Check.same("what is owed counts, 869 beats", way.find(clock, 869), 0);
        Check.same("what is owed counts, 870 beats", way.find(clock, 870), 1);
        clock.setSilence(0, 1);
        Check.same("silent hours count, to 3599", way.find(clock, 3569), 0);
        Check.same("silent hours count, to 3600", way.find(clock, 3570), 1);
        clock.addDrum();
        clock.setPin(0, 31, 8, true);
        clock.setTune(1, 0);
        Check.same("a tune counts", way.find(clock, 3570), 2);
        clock.setQuarters(false);
        Check.same("the quarters are off", way.find(clock, 5000), 2);
        // The bound, and the beats to the mark 1: each full minute before it comes sooner by the bound.
        for (int[] row : new int[][] {{30, 480}, {5, 830}, {1, 886}, {0, 900}}) {
            MinsterClock bound = Clocks.owing(600);
            bound.setBound(row[0]);
            Check.same("the bound " + row[0] + " counts, a beat before", way.find(bound, row[1] - 1), 0);
            Check.same("the bound " + row[0] + " counts", way.find(bound, row[1]), 1);
        }
        strokesOnceToCome(way);
    }

    private static void strokesOnceToCome(Way way) {
        MinsterClock mark = Clocks.at(899);
        mark.setBound(30);
        mark.owe(-600);
        Check.same("a mark that comes 21 times strikes once", way.find(mark, 1 + 20 * 30), 1);
        Check.same("the next one, a beat before", way.find(mark, 1 + 20 * 30 + 899), 1);
        Check.same("the next one", way.find(mark, 1 + 20 * 30 + 900), 3);
        Check.same("nothing of it has happened", mark.shown() + " " + mark.owe(0) + " " + mark.strikes(), "899 -600 0");
        mark.pass(1);
        Check.same("a mark that was reached is not to come", way.find(mark, 30), 0);
    }

    private static void leastAndMost(Way way) {
        Check.same("none", way.find(Clocks.at(900), 899), 0);
        Check.same("the least", way.find(Clocks.at(899), 1), 1);
        MinsterClock most = Clocks.loudest();
        most.setBeat(20, 1);
        // 111 marks: 27 full hours, 12 twice from 1 to 12 and then 1, 2, 3; and 28 quarters of each kind.
        int due = 2 * 78 + 6 + 28 * 6 + 27 * 256;
        Check.same("the most", way.find(most, 5000), due);
        Check.same("it comes so", most.pass(5000), due);
    }

    private static void noSuchBeats(String call, Way way) {
        for (int beats : NO_BEATS) {
            Twins.refuses(call + "(" + beats + ")", Clocks::live, ARGUMENT, clock -> way.find(clock, beats));
        }
        Twins.keeps(call + "(5000)", Clocks::live, clock -> way.find(clock, 5000));
    }

    private static void shareOfReached() {
        MinsterClock clock = new MinsterClock();
        clock.pass(900);
        Check.same("all", clock.struckShare(), 1.0f);
        clock.setSilence(0, 1);
        clock.pass(900);
        Check.same("one of two", clock.struckShare(), 0.5f);
        clock.pass(899);
        Check.same("a mark that is not reached yet does not count", clock.struckShare(), 0.5f);
        clock.owe(-10);
        clock.pass(1);
        Check.same("one of three", clock.struckShare(), 0.33333334f);
        clock.pass(5);
        Check.same("which is reached once, though it is shown twice", clock.struckShare(), 0.33333334f);
        clock.pass(5 + 900);
        Check.same("two of four", clock.struckShare(), 0.5f);
        Check.same("by marks, and not by strokes", Clocks.struck(3).struckShare(), 1.0f);
    }

    private static void share() {
        MinsterClock clock = Clocks.byMarks();
        clock.pass(45);
        Check.same("1 of 1", clock.struckShare(), 1.0f);
        clock.setQuarters(false);
        clock.pass(45 * 2);
        Check.same("1 of 3, as floats", clock.struckShare(), 0.33333334f);
        clock.pass(45 * 4);
        Check.same("2 of 7, as floats", clock.struckShare(), 0.2857143f);
        MinsterClock none = Clocks.byMarks();
        none.setSilence(0, 23);
        none.pass(45);
        Check.same("0 of 1", none.struckShare(), 0.0f);
        none.pass(45 * 90);
        Check.same("0 of 91", none.struckShare(), 0.0f);
        none.pass(45);
        Check.same("1 of 92", none.struckShare(), 1.0f / 92.0f);
        Check.same("all of 5000, more than are kept", Clocks.struck(5000).struckShare(), 1.0f);
    }

    private static void noShare() {
        Check.fails("at first", ARITHMETIC, () -> new MinsterClock().struckShare());
        Check.fails("at 899", ARITHMETIC, () -> Clocks.at(899).struckShare());
        Check.same("at 900", Clocks.at(900).struckShare(), 1.0f);
        MinsterClock silent = new MinsterClock();
        silent.setSilence(0, 1);
        silent.pass(900);
        Check.same("at 900, silent but reached", silent.struckShare(), 0.0f);
        Twins.refuses("struckShare before a mark", clock -> {
            clock.setBeat(7, 20);
            clock.pass(2569);
            clock.owe(-3);
        }, ARITHMETIC, MinsterClock::struckShare);
    }

    private static void onceAtTheEnds() {
        for (int marks : new int[] {0, 1, 39, 40, 41, 80, 81, 100}) {
            Check.same(marks + " marks", Clocks.struck(marks).isOnce(), true);
        }
        for (int seconds : new int[] {199, 200, 839, 840, 841, 898, 899, 900}) {
            MinsterClock clock = Clocks.at(seconds);
            clock.addWheel(7, 23);
            clock.addWheel(120, 6);
            Check.same("700, 60 or 1 beats to a mark, from " + seconds, clock.isOnce(), true);
            clock.owe(-600);
            clock.setBound(30);
            clock.setBeat(19, 20);
            Check.same("owing, from " + seconds, clock.isOnce(), true);
        }
        MinsterClock back = Clocks.at(899);
        back.owe(-5);
        back.pass(1);
        Check.same("below a mark that struck", back.isOnce(), true);
        MinsterClock silent = Clocks.byMarks();
        silent.setQuarters(false);
        silent.setSilence(0, 23);
        silent.pass(45 * 90);
        Check.same("where nothing struck", silent.isOnce(), true);
        Twins.keeps("isOnce", Clocks::live, MinsterClock::isOnce);
    }

    private static void soundAndSpoilt() {
        Check.same("sound", Clocks.struck(50).isOnce(), true);
        try {
            spoiltInTheLog();
            spoiltOnBothWays();
        } catch (IllegalStateException built) {
            // How the state is held is free: who holds it otherwise must spoil it otherwise, but has broken nothing.
            System.out.println("not tried, spoilt clocks: " + built.getMessage());
        }
    }

    /** No call can bring about what does not hold, so it is spoilt behind the clock's back. */
    private static void spoiltInTheLog() {
        // Of the rows, the bell, or the place of the mark: 50 marks lie in the log from the place 10 on to the place 9.
        Object[][] rows = {{"bells", "strokesOfBells", 8, 1}, {"bells", "strokesOfBells", 0, -1},
            {"log", "marks", 8, 1}, {"log", "marks", 10, 1}, {"log", "marks", 20, 1000}};
        String[] told = {"a stroke of the last bell too many", "one of the first bell too few", "the latest mark twice",
            "the eldest mark twice", "a mark that is greater than a later one"};
        for (int i = 0; i < rows.length; i++) {
            MinsterClock clock = Clocks.struck(50);
            int[] row = (int[]) part(part(clock, (String) rows[i][0]), (String) rows[i][1]);
            row[(int) rows[i][2]] += (int) rows[i][3];
            Check.same(told[i], clock.isOnce(), false);
        }
        MinsterClock two = Clocks.struck(2);
        ((int[]) part(part(two, "log"), "marks"))[0] = 2;
        Check.same("the same mark twice, of two", two.isOnce(), false);
    }

    private static void spoiltOnBothWays() {
        // A beat of -1 second: minute by minute 60 of them take back what the first of them brings beat by beat.
        for (int kept : new int[] {930, 1000}) {
            MinsterClock strokes = Clocks.struck(50);
            spoil(part(strokes, "pace"), "numerator", -1);
            spoil(part(strokes, "pace"), "rest", kept);
            Check.same("strokes that are not the same by both ways, " + kept, strokes.isOnce(), false);
        }
        // So many teeth that in 1, 60 or 700 beats more the ratio goes round, but not the walk.
        for (int beatsBefore : new int[] {0, 30, 100}) {
            MinsterClock wheel = Clocks.struck(50);
            wheel.addWheel(6, 6);
            List<?> wheels = (List<?>) part(part(wheel, "train"), "wheels");
            spoil(wheels.get(1), "movedBeforeAtStart", wheel.beats() - Long.MAX_VALUE / 6 + beatsBefore);
            Check.same("a movement that is not the same by both ways, " + beatsBefore, wheel.isOnce(), false);
        }
    }

    private static Field field(Object owner, String name) {
        try {
            Field field = owner.getClass().getDeclaredField(name);
            field.setAccessible(true);
            return field;
        } catch (ReflectiveOperationException missing) {
            throw new IllegalStateException("no field " + name + " any more", missing);
        }
    }

    private static Object part(Object owner, String name) {
        try {
            return field(owner, name).get(owner);
        } catch (ReflectiveOperationException refused) {
            throw new IllegalStateException("the field " + name + " can't be read", refused);
        }
    }

    private static void spoil(Object owner, String name, long number) {
        try {
            if (field(owner, name).getType() == long.class) {
                field(owner, name).setLong(owner, number);
            } else {
                field(owner, name).setInt(owner, (int) number);
            }
        } catch (ReflectiveOperationException refused) {
            throw new IllegalStateException("the field " + name + " can't be set", refused);
        }
    }
}
