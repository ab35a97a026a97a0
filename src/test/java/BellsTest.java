import java.util.NoSuchElementException;

/** Promises 25 to 39: the silence, the drums, the strokes, the log. */
public final class BellsTest {
    private static final Class<IllegalArgumentException> ARGUMENT = IllegalArgumentException.class;
    private static final Class<IllegalStateException> STATE = IllegalStateException.class;
    private static final Class<IndexOutOfBoundsException> INDEX = IndexOutOfBoundsException.class;
    private static final Class<NoSuchElementException> ELEMENT = NoSuchElementException.class;
    private static final Class<ArithmeticException> ARITHMETIC = ArithmeticException.class;
    private static final int[] NO_HOURS = {-1, 24, Integer.MIN_VALUE, Integer.MAX_VALUE};

    public static void main(String[] args) {
        promise25();
        promise25Hours();
        promise26();
        promise27();
        promise28And29();
        promise30();
        promise31();
        tunesArePlayed();
        tunesOfAllHours();
        promise32();
        promise33();
        promise34And35();
        promise34And35Forty();
        promises36And37();
        promises36And37Corrected();
        promise38();
        promise39();
        Check.end("BellsTest");
    }

    private static void promise25() {
        MinsterClock clock = new MinsterClock();
        for (int hour : NO_HOURS) {
            Check.fails("setSilence(" + hour + ", 0)", ARGUMENT, () -> clock.setSilence(hour, 0));
            Check.fails("setSilence(0, " + hour + ")", ARGUMENT, () -> clock.setSilence(0, hour));
        }
        for (int from = 0; from < 24; from++) {
            MinsterClock silent = new MinsterClock();
            for (int to = 0; to < 24; to++) {
                int due = to >= from ? to - from : 24 - from + to;
                Check.same("setSilence " + from + " " + to, silent.setSilence(from, to), due);
            }
        }
        Check.same("setSilence(0, 1)", clock.setSilence(0, 1), 1);
        Check.fails("setSilence(0, 24)", ARGUMENT, () -> clock.setSilence(0, 24));
        Check.same("a wrong silence changes nothing", clock.pass(3599), 0);
        Check.same("the hour 1 is not silent", clock.pass(1), 1);
    }

    /** For each silence: the marks of the silent hours do not strike, all others do. */
    private static void promise25Hours() {
        int[][] silences = {{22, 6}, {6, 22}, {0, 23}, {23, 0}, {5, 5}, {0, 0}, {12, 13}, {1, 0}};
        for (int[] silence : silences) {
            MinsterClock clock = Clocks.byMarks();
            int from = silence[0];
            int to = silence[1];
            int hours = clock.setSilence(from, to);
            int struck = 0;
            for (int mark = 1; mark <= 96; mark++) {
                int hour = mark / 4 % 24;
                boolean isSilent = (hour - from + 24) % 24 < hours;
                int due = mark % 4 == 0 ? (hour + 11) % 12 + 1 : mark % 4;
                String told = "silence " + from + " to " + to + ", mark " + mark;
                Check.same(told, clock.pass(45), isSilent ? 0 : due);
                struck += isSilent ? 0 : 1;
                Check.same(told + ", strikes", clock.strikes(), struck);
            }
        }
    }

    private static void promise26() {
        MinsterClock clock = Clocks.byMarks();
        Check.same("setQuarters(false)", clock.setQuarters(false), true);
        Check.same("setQuarters(false)", clock.setQuarters(false), false);
        Check.same("no quarter", clock.pass(45 * 3), 0);
        Check.same("not counted", clock.strikes(), 0);
        Check.fails("not in the log", ELEMENT, () -> clock.markAt(0));
        Check.same("reached all the same", clock.struckShare(), 0.0f);
        Check.same("the hour strikes", clock.pass(45), 1);
        Check.same("setQuarters(true)", clock.setQuarters(true), false);
        Check.same("setQuarters(true)", clock.setQuarters(true), true);
        Check.same("quarters again", clock.pass(45 * 3), 1 + 2 + 3);
        // A quarter that was reached silently is not struck later, when the clock comes to it again.
        MinsterClock again = new MinsterClock();
        again.setQuarters(false);
        again.owe(-1);
        again.setBound(1);
        again.pass(899);
        again.owe(-1);
        Check.same("back from 60 to 59, so this is the quarter less 2", again.shown(), 898);
        Check.same("the quarter, silent", again.pass(2), 0);
        Check.same("and back", again.shown(), 899);
        again.setQuarters(true);
        Check.same("the quarter once more, not struck", again.pass(1), 0);
        Check.same("none struck", again.strikes(), 0);
    }

    private static void promise27() {
        MinsterClock clock = new MinsterClock();
        for (int drum = 0; drum < 4; drum++) {
            int next = drum;
            Check.fails("no drum yet", INDEX, () -> clock.pins(next));
            Check.same("addDrum", clock.addDrum(), drum);
            Check.same("without pins", clock.pins(drum), 0);
        }
        Check.fails("addDrum, one too many", STATE, () -> clock.addDrum());
        Check.fails("no fifth drum", INDEX, () -> clock.pins(4));
        Check.fails("addDrum, one too many", STATE, () -> clock.addDrum());
    }

    private static void promise28And29() {
        MinsterClock clock = new MinsterClock();
        Check.fails("setPin without a drum", INDEX, () -> clock.setPin(0, 0, 1, true));
        Check.fails("setPin, all wrong", INDEX, () -> clock.setPin(0, 32, 9, true));
        clock.addDrum();
        clock.addDrum();
        int[][] wrong = {{-1, 1}, {32, 1}, {0, 0}, {0, 9}, {0, -1}, {Integer.MIN_VALUE, 1}, {Integer.MAX_VALUE, 1},
            {0, Integer.MIN_VALUE}, {0, Integer.MAX_VALUE}};
        for (int[] pin : wrong) {
            Check.fails("setPin", ARGUMENT, () -> clock.setPin(0, pin[0], pin[1], true));
            Check.fails("setPin away", ARGUMENT, () -> clock.setPin(0, pin[0], pin[1], false));
            Check.fails("setPin, no drum", INDEX, () -> clock.setPin(2, pin[0], pin[1], true));
            Check.fails("setPin, no drum", INDEX, () -> clock.setPin(-1, pin[0], pin[1], true));
        }
        Check.same("a wrong pin is not set", clock.pins(0), 0);
        Check.same("take away what is not there", clock.setPin(0, 0, 1, false), false);
        Check.same("still none", clock.pins(0), 0);
        Check.same("set", clock.setPin(0, 0, 1, true), false);
        Check.same("set again", clock.setPin(0, 0, 1, true), true);
        Check.same("one pin", clock.pins(0), 1);
        Check.same("another drum has its own", clock.pins(1), 0);
        Check.same("another drum has its own", clock.setPin(1, 0, 1, true), false);
        Check.same("another bell", clock.setPin(0, 0, 8, true), false);
        Check.same("another step", clock.setPin(0, 31, 1, true), false);
        Check.same("three pins", clock.pins(0), 3);
        Check.same("take away", clock.setPin(0, 0, 1, false), true);
        Check.same("take away again", clock.setPin(0, 0, 1, false), false);
        Check.same("two pins", clock.pins(0), 2);
        Check.same("the other drum keeps its pin", clock.pins(1), 1);
        for (int step = 0; step <= 31; step++) {
            for (int bell = 1; bell <= 8; bell++) {
                boolean wasSet = step == 0 && bell == 8 || step == 31 && bell == 1;
                Check.same("fill the drum", clock.setPin(0, step, bell, true), wasSet);
            }
        }
        Check.same("a full drum", clock.pins(0), 256);
        for (int drum : new int[] {-1, 2, 4, Integer.MIN_VALUE, Integer.MAX_VALUE}) {
            Check.fails("pins(" + drum + ")", INDEX, () -> clock.pins(drum));
        }
    }

    private static void promise30() {
        MinsterClock clock = new MinsterClock();
        Check.fails("bellAt without a drum", INDEX, () -> clock.bellAt(0, 0));
        Check.fails("bellAt without a drum", INDEX, () -> clock.bellAt(0, -1));
        clock.addDrum();
        Check.fails("bellAt without a pin", ELEMENT, () -> clock.bellAt(0, 0));
        int[][] pins = {{31, 8}, {0, 5}, {0, 1}, {7, 2}, {31, 3}, {6, 8}, {0, 8}};
        for (int[] pin : pins) {
            clock.setPin(0, pin[0], pin[1], true);
        }
        int[] due = {1, 5, 8, 8, 2, 3, 8};
        for (int index = 0; index < due.length; index++) {
            Check.same("bellAt(0, " + index + ")", clock.bellAt(0, index), due[index]);
        }
        for (int index : new int[] {-1, 7, 8, Integer.MIN_VALUE, Integer.MAX_VALUE}) {
            Check.fails("bellAt(0, " + index + ")", ELEMENT, () -> clock.bellAt(0, index));
            Check.fails("bellAt(1, " + index + ")", INDEX, () -> clock.bellAt(1, index));
            Check.fails("bellAt(-1, " + index + ")", INDEX, () -> clock.bellAt(-1, index));
        }
        clock.setPin(0, 0, 1, false);
        Check.same("the next one moves up", clock.bellAt(0, 0), 5);
        Check.fails("one less", ELEMENT, () -> clock.bellAt(0, 6));
    }

    private static void promise31() {
        MinsterClock clock = new MinsterClock();
        for (int hour : NO_HOURS) {
            Check.fails("setTune(" + hour + ", -1)", ARGUMENT, () -> clock.setTune(hour, -1));
            Check.fails("setTune(" + hour + ", 7)", ARGUMENT, () -> clock.setTune(hour, 7));
        }
        for (int drum : new int[] {0, -2, 4, Integer.MIN_VALUE, Integer.MAX_VALUE}) {
            Check.fails("setTune(3, " + drum + ")", INDEX, () -> clock.setTune(3, drum));
        }
        clock.addDrum();
        clock.addDrum();
        Check.same("setTune(0, 1)", clock.setTune(0, 1), -1);
        Check.same("setTune(23, 0)", clock.setTune(23, 0), -1);
        Check.fails("setTune(0, 2)", INDEX, () -> clock.setTune(0, 2));
        Check.same("a wrong tune changes nothing", clock.setTune(0, 0), 1);
        Check.same("setTune(0, -1)", clock.setTune(0, -1), 0);
        Check.same("setTune(0, -1)", clock.setTune(0, -1), -1);
        Check.same("each hour has its own", clock.setTune(23, -1), 0);
    }

    private static void tunesArePlayed() {
        MinsterClock clock = Clocks.byMarks();
        clock.addDrum();
        clock.addDrum();
        clock.setPin(0, 0, 1, true);
        clock.setPin(0, 3, 1, true);
        clock.setPin(0, 3, 8, true);
        clock.setTune(1, 0);
        clock.setTune(0, 0);
        clock.setTune(2, 1);
        Check.same("quarters play no tune", clock.pass(135), 6);
        Check.same("the hour 1 and its tune", clock.pass(45), 1 + 3);
        Check.same("the strokes of that mark", clock.strokesAt(4), 4);
        Check.same("the hour's bell", clock.strokes(0), 1);
        Check.same("the quarters' bell plays too", clock.strokes(1), 6 + 2);
        Check.same("the bell 8", clock.strokes(8), 1);
        Check.same("a drum without pins", clock.pass(180), 6 + 2);
        clock.setPin(1, 9, 4, true);
        clock.setTune(13, 1);
        clock.setTune(1, -1);
        clock.pass(180 * 10);
        Check.same("the tune is of the hour of the day, 13 and not 1", clock.pass(180), 6 + 1 + 1);
        Check.same("the bell 4", clock.strokes(4), 1);
        clock.pass(180 * 10);
        clock.setSilence(0, 1);
        Check.same("a silent hour plays no tune", clock.pass(180), 6);
        Check.same("the bell 8 had no more", clock.strokes(8), 1);
        clock.setSilence(0, 0);
        clock.pass(180 * 12);
        clock.pass(180 * 11);
        Check.same("midnight: 12, and the tune of the hour 0", clock.pass(180), 6 + 12 + 3);
        Check.same("the bell 8 had one more", clock.strokes(8), 2);
        clock.setQuarters(false);
        clock.setTune(2, 0);
        clock.pass(180);
        Check.same("the tune as it is now", clock.pass(180), 2 + 3);
    }

    private static void tunesOfAllHours() {
        for (int hour = 0; hour < 24; hour++) {
            MinsterClock clock = Clocks.byMarks();
            clock.addDrum();
            clock.addDrum();
            clock.setPin(1, hour, 1 + hour % 8, true);
            clock.setTune(hour, 1);
            clock.setQuarters(false);
            for (int next = 1; next <= 24; next++) {
                int due = (next + 11) % 12 + 1 + (next % 24 == hour ? 1 : 0);
                Check.same("the tune of " + hour + " at " + next, clock.pass(180), due);
            }
            Check.same("the tune of " + hour + " was played once", clock.strokes(1 + hour % 8), 1);
        }
    }

    private static void promise32() {
        MinsterClock clock = Clocks.byMarks();
        for (int bell : new int[] {-1, 9, Integer.MIN_VALUE, Integer.MAX_VALUE}) {
            Check.fails("strokes(" + bell + ")", INDEX, () -> clock.strokes(bell));
        }
        clock.addDrum();
        for (int bell = 1; bell <= 8; bell++) {
            for (int step = 0; step < 4 * bell; step += 2) {
                clock.setPin(0, step % 32, bell, true);
            }
        }
        clock.setTune(5, 0);
        clock.pass(4320);
        Check.same("a day's hours", clock.strokes(0), 156);
        Check.same("a day's quarters, and 2 pins", clock.strokes(1), 144 + 2);
        for (int bell = 2; bell <= 8; bell++) {
            Check.same("the pins of " + bell, clock.strokes(bell), 2 * bell);
        }
        clock.pass(4320);
        Check.same("two days", clock.strokes(0), 312);
        Check.same("two days", clock.strokes(8), 32);
    }

    private static void promise33() {
        MinsterClock clock = Clocks.byMarks();
        clock.pass(44);
        Check.same("none yet", clock.strikes(), 0);
        clock.pass(1);
        Check.same("one", clock.strikes(), 1);
        clock.pass(45 * 99);
        Check.same("all are counted, not the 40 that are kept", clock.strikes(), 100);
        clock.setSilence(1, 2);
        clock.pass(45 * 3);
        Check.same("silent marks are not counted", clock.strikes(), 100);
        clock.strokesAhead(5000);
        clock.strokesByBeats(5000);
        Check.same("what is asked ahead is not counted", clock.strikes(), 100);
    }

    private static void promise34And35() {
        MinsterClock clock = Clocks.byMarks();
        int[] wrong = {0, 1, -1, 39, 40, Integer.MIN_VALUE, Integer.MAX_VALUE};
        for (int rank : wrong) {
            Check.fails("markAt(" + rank + ") of an empty log", ELEMENT, () -> clock.markAt(rank));
            Check.fails("strokesAt(" + rank + ") of an empty log", ELEMENT, () -> clock.strokesAt(rank));
        }
        clock.pass(45 * 4);
        for (int rank = 0; rank < 4; rank++) {
            Check.same("markAt(" + rank + ")", clock.markAt(rank), 4 - rank);
        }
        Check.fails("markAt(4)", ELEMENT, () -> clock.markAt(4));
        Check.fails("markAt(-1)", ELEMENT, () -> clock.markAt(-1));
        int[] strokes = {1, 2, 3, 1};
        for (int mark = 1; mark <= 4; mark++) {
            Check.same("strokesAt(" + mark + ")", clock.strokesAt(mark), strokes[mark - 1]);
        }
        Check.fails("strokesAt(0), which never strikes", ELEMENT, () -> clock.strokesAt(0));
        Check.fails("strokesAt(5)", ELEMENT, () -> clock.strokesAt(5));
        clock.setQuarters(false);
        clock.pass(45 * 4);
        Check.same("only what struck is kept", clock.markAt(0), 8);
        Check.same("only what struck is kept", clock.markAt(1), 4);
        Check.fails("only what struck is kept", ELEMENT, () -> clock.strokesAt(7));
        clock.setSilence(3, 4);
        clock.pass(45 * 4);
        Check.same("a silent hour is not kept", clock.markAt(0), 8);
        Check.fails("a silent hour is not kept", ELEMENT, () -> clock.strokesAt(12));
    }

    private static void promise34And35Forty() {
        for (int mark = 1; mark <= 130; mark++) {
            MinsterClock clock = Clocks.struck(mark - 1);
            clock.pass(45);
            int kept = Math.min(mark, 40);
            for (int rank = 0; rank < kept; rank++) {
                Check.same("markAt(" + rank + ") of " + mark, clock.markAt(rank), mark - rank);
            }
            Check.fails("markAt(" + kept + ") of " + mark, ELEMENT, () -> clock.markAt(kept));
            int eldest = mark - kept + 1;
            int hour = eldest / 4 % 24;
            int due = eldest % 4 == 0 ? (hour + 11) % 12 + 1 : eldest % 4;
            Check.same("strokesAt(" + eldest + ")", clock.strokesAt(eldest), due);
            Check.fails("strokesAt(" + (eldest - 1) + ")", ELEMENT, () -> clock.strokesAt(eldest - 1));
        }
    }

    private static void promises36And37() {
        MinsterClock clock = new MinsterClock();
        for (int beats : new int[] {0, -1, 5001, Integer.MIN_VALUE, Integer.MAX_VALUE}) {
            Check.fails("strokesAhead(" + beats + ")", ARGUMENT, () -> clock.strokesAhead(beats));
            Check.fails("strokesByBeats(" + beats + ")", ARGUMENT, () -> clock.strokesByBeats(beats));
        }
        checkAhead(clock, 1, 0);
        checkAhead(clock, 899, 0);
        checkAhead(clock, 900, 1);
        checkAhead(clock, 3600, 7);
        checkAhead(clock, 5000, 8);
        clock.pass(899);
        checkAhead(clock, 1, 1);
        clock.pass(1);
        checkAhead(clock, 1, 0);
        checkAhead(clock, 899, 0);
        checkAhead(clock, 900, 2);
        clock.setBeat(1, 3);
        clock.pass(2);
        checkAhead(clock, 2697, 0);
        checkAhead(clock, 2698, 2);
        clock.setQuarters(false);
        checkAhead(clock, 5000, 0);
        clock.setBeat(20, 1);
        checkAhead(clock, 135, 1);
        clock.addDrum();
        clock.setPin(0, 0, 3, true);
        clock.setTune(1, 0);
        checkAhead(clock, 135, 2);
        clock.setSilence(1, 2);
        checkAhead(clock, 135, 0);
        checkAhead(clock, 314, 0);
        checkAhead(clock, 315, 2);
        Check.same("nothing has happened", clock.shown(), 900);
        Check.same("nothing has been struck", clock.strokes(0) + clock.strokes(3), 0);
    }

    private static void checkAhead(MinsterClock clock, int beats, int due) {
        Check.same("strokesAhead(" + beats + ")", clock.strokesAhead(beats), due);
        Check.same("strokesByBeats(" + beats + ")", clock.strokesByBeats(beats), due);
        Check.same("strokesAhead(" + beats + ") again", clock.strokesAhead(beats), due);
    }

    private static void promises36And37Corrected() {
        MinsterClock on = new MinsterClock();
        on.setBound(30);
        on.owe(60);
        // 60 becomes 90 and 120 becomes 150, so that the quarter comes 60 seconds sooner.
        checkAhead(on, 839, 0);
        checkAhead(on, 840, 1);
        MinsterClock back = new MinsterClock();
        back.pass(900);
        back.setBound(30);
        back.owe(-60);
        checkAhead(back, 959, 0);
        checkAhead(back, 960, 2);
        back.pass(60);
        Check.same("once back", back.shown(), 930);
        checkAhead(back, 899, 0);
        checkAhead(back, 900, 2);
        Check.same("nothing is paid by asking", back.owe(0), -30);
        MinsterClock much = new MinsterClock();
        much.setBound(30);
        much.owe(600);
        // 60 seconds to the first correction, and 30 to each of the 13 others and to the quarter.
        checkAhead(much, 479, 0);
        checkAhead(much, 480, 1);
        MinsterClock little = new MinsterClock();
        little.setBound(1);
        little.owe(600);
        checkAhead(little, 885, 0);
        checkAhead(little, 886, 1);
        MinsterClock none = new MinsterClock();
        none.setBound(0);
        none.owe(600);
        checkAhead(none, 899, 0);
        checkAhead(none, 900, 1);
        MinsterClock atMark = new MinsterClock();
        atMark.pass(899);
        atMark.owe(-600);
        atMark.setBound(30);
        // The quarter strikes once, however often the clock comes to it: 20 times it goes back.
        checkAhead(atMark, 1, 1);
        checkAhead(atMark, 31, 1);
        checkAhead(atMark, 1500, 1);
        checkAhead(atMark, 1501, 3);
    }

    private static void promise38() {
        MinsterClock clock = Clocks.byMarks();
        Check.fails("struckShare at first", ARITHMETIC, () -> clock.struckShare());
        clock.pass(44);
        Check.fails("struckShare before the first mark", ARITHMETIC, () -> clock.struckShare());
        clock.pass(1);
        Check.same("struckShare: 1 / 1", clock.struckShare(), 1.0f);
        clock.setQuarters(false);
        clock.pass(45);
        Check.same("struckShare: 1 / 2", clock.struckShare(), 0.5f);
        clock.pass(45);
        Check.same("struckShare: 1 / 3", clock.struckShare(), 1f / 3f);
        clock.pass(45);
        Check.same("struckShare: 2 / 4", clock.struckShare(), 0.5f);
        clock.pass(45 * 3);
        Check.same("struckShare: 2 / 7", clock.struckShare(), 2f / 7f);
        MinsterClock silent = Clocks.byMarks();
        silent.setSilence(0, 23);
        silent.pass(45);
        Check.same("struckShare: 0 / 1", silent.struckShare(), 0.0f);
    }

    private static void promise39() {
        MinsterClock clock = new MinsterClock();
        Check.same("isOnce at first", clock.isOnce(), true);
        clock.addWheel(7, 23);
        clock.addWheel(113, 19);
        clock.setBeat(17, 19);
        clock.addDrum();
        clock.setPin(0, 4, 4, true);
        clock.setPin(0, 5, 4, true);
        clock.setTune(1, 0);
        clock.setTune(12, 0);
        clock.setBound(29);
        for (int i = 0; i < 60; i++) {
            clock.owe(i % 3 == 0 ? -577 : 293);
            clock.pass(1 + i * 83);
            clock.setSilence(i % 24, 7 * i % 24);
            clock.setQuarters(i % 5 != 0);
            Check.same("isOnce", clock.isOnce(), true);
            Check.same("isOnce changes nothing", clock.isOnce(), true);
        }
        MinsterClock other = new MinsterClock();
        other.pass(899);
        int before = other.strokesAhead(5000);
        other.isOnce();
        Check.same("isOnce changes nothing", other.strokesAhead(5000), before);
        Check.same("isOnce changes nothing", other.shown() + other.strikes(), 899);
    }
}
