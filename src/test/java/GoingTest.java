/** Promises 9 to 16: the beats, the hands and the corrections. */
public final class GoingTest {
    private static final Class<IllegalArgumentException> ARGUMENT = IllegalArgumentException.class;
    private static final int[] WRONG_BEATS = {0, -1, 5001, Integer.MIN_VALUE, Integer.MAX_VALUE};

    public static void main(String[] args) {
        promise9();
        promise9Rest();
        promise10();
        promise11();
        promise12();
        promise13And14();
        promise15();
        promise15Limits();
        correctionsForward();
        correctionsBack();
        correctionsAtMarks();
        correctionsOfTheWholeDebt();
        promise16();
        Check.end("GoingTest");
    }

    private static void promise9() {
        MinsterClock clock = new MinsterClock();
        int[][] wrong = {{0, 1}, {21, 1}, {1, 0}, {1, 21}, {-1, 1}, {1, -1},
            {Integer.MIN_VALUE, 1}, {1, Integer.MAX_VALUE}};
        for (int[] pair : wrong) {
            Check.fails("setBeat " + pair[0] + " " + pair[1], ARGUMENT, () -> clock.setBeat(pair[0], pair[1]));
        }
        Check.same("a wrong beat changes nothing", Clocks.shownBehind(clock, 3), 3);
        Check.same("setBeat(20, 1)", clock.setBeat(20, 1), 1);
        Check.same("20 seconds a beat", Clocks.shownBehind(clock, 2), 43);
        Check.same("setBeat(7, 20)", clock.setBeat(7, 20), 20);
        Check.same("3 beats of 7 / 20: 21 / 20", Clocks.shownBehind(clock, 3), 44);
        Check.same("setBeat(20, 20)", clock.setBeat(20, 20), 7);
        Check.same("a beat of 20 / 20", Clocks.shownBehind(clock, 1), 45);
        Check.same("setBeat(1, 20)", clock.setBeat(1, 20), 20);
        Check.same("19 beats of 1 / 20", Clocks.shownBehind(clock, 19), 45);
        Check.same("20 beats of 1 / 20", Clocks.shownBehind(clock, 1), 46);
    }

    private static void promise9Rest() {
        MinsterClock clock = new MinsterClock();
        clock.setBeat(1, 3);
        Check.same("2 / 3", Clocks.shownBehind(clock, 2), 0);
        Check.fails("a wrong beat", ARGUMENT, () -> clock.setBeat(1, 21));
        Check.same("a wrong beat keeps the rest", Clocks.shownBehind(clock, 1), 1);
        Check.same("1 2/3", Clocks.shownBehind(clock, 2), 1);
        clock.setBeat(1, 3);
        Check.same("the rest is lost, though the fraction is the same", Clocks.shownBehind(clock, 2), 1);
        Check.same("three thirds since then", Clocks.shownBehind(clock, 1), 2);
        clock.setBeat(5, 4);
        Check.same("5 / 4", Clocks.shownBehind(clock, 1), 3);
        Check.same("10 / 4", Clocks.shownBehind(clock, 1), 4);
        Check.same("15 / 4", Clocks.shownBehind(clock, 1), 5);
        Check.same("20 / 4", Clocks.shownBehind(clock, 1), 7);
    }

    private static void promise10() {
        MinsterClock clock = new MinsterClock();
        for (int beats : WRONG_BEATS) {
            Check.fails("pass(" + beats + ")", ARGUMENT, () -> clock.pass(beats));
        }
        Check.same("a wrong pass changes nothing", clock.beats(), 0L);
        Check.same("pass to just before the quarter", clock.pass(899), 0);
        Check.same("pass to the quarter", clock.pass(1), 1);
        Check.same("pass over 2 quarters to just before the hour", clock.pass(2699), 5);
        Check.same("pass to the hour 1", clock.pass(1), 1);
        Check.same("pass over 5 marks", clock.pass(5000), 1 + 2 + 3 + 2 + 1);
        MinsterClock day = new MinsterClock();
        day.setBeat(20, 1);
        // A day: 24 hours with 6 strokes at the quarters, and twice 1 to 12 strokes.
        Check.same("a day in one call", day.pass(4320), 24 * 6 + 2 * 78);
        Check.same("5000 beats of 20 seconds", day.pass(5000), 24 * 6 + 2 * 78 + 6 * 3 + 1 + 2 + 3 + 1 + 2 + 3);
    }

    private static void promise11() {
        MinsterClock clock = new MinsterClock();
        clock.pass(1);
        Check.same("beats", clock.beats(), 1L);
        clock.setBeat(1, 20);
        clock.pass(5000);
        Check.same("beats count, not seconds", clock.beats(), 5001L);
        clock.setBeat(20, 1);
        clock.pass(10);
        Check.same("beats count, not seconds", clock.beats(), 5011L);
        clock.owe(600);
        clock.pass(60);
        Check.same("corrections are no beats", clock.beats(), 5071L);
        clock.strokesAhead(70);
        clock.strokesByBeats(70);
        clock.movedByBeats(0, 70);
        clock.isOnce();
        Check.same("what is asked is no beat", clock.beats(), 5071L);
    }

    private static void promise12() {
        MinsterClock clock = new MinsterClock();
        Check.same("shown at first", clock.shown(), 0);
        clock.setBeat(7, 9);
        int[] due = {0, 1, 2, 3, 3, 4, 5, 6, 7, 7};
        for (int beat = 1; beat <= due.length; beat++) {
            Check.same("shown: " + 7 * beat + " / 9", Clocks.shownBehind(clock, 1), due[beat - 1]);
        }
        Check.same("shown: 7 * 5010 / 9", Clocks.shownBehind(clock, 5000), 3896);
        MinsterClock days = new MinsterClock();
        days.setBeat(20, 1);
        Check.same("shown goes on behind a day", Clocks.shownBehind(days, 5000), 100000);
        Check.same("shown goes on behind a day", Clocks.shownBehind(days, 5000), 200000);
    }

    private static void promise13And14() {
        MinsterClock clock = new MinsterClock();
        clock.pass(59);
        Check.same("0:00:59", clock.hour() * 100 + clock.minute(), 0);
        clock.pass(1);
        Check.same("0:01:00", clock.hour() * 100 + clock.minute(), 1);
        clock.pass(3539);
        Check.same("0:59:59", clock.hour() * 100 + clock.minute(), 59);
        clock.pass(1);
        Check.same("1:00:00", clock.hour() * 100 + clock.minute(), 100);
        clock.setBeat(20, 1);
        clock.pass(4137);
        Check.same("23:59:00, hour", clock.hour(), 23);
        Check.same("23:59:00, minute", clock.minute(), 59);
        clock.pass(2);
        Check.same("23:59:40, hour", clock.hour(), 23);
        Check.same("23:59:40, minute", clock.minute(), 59);
        clock.pass(1);
        Check.same("0:00:00, hour", clock.hour(), 0);
        Check.same("0:00:00, minute", clock.minute(), 0);
        clock.pass(4320);
        clock.pass(2379);
        Check.same("13:13:00, hour", clock.hour(), 13);
        Check.same("13:13:00, minute", clock.minute(), 13);
    }

    private static void promise15() {
        MinsterClock clock = new MinsterClock();
        Check.same("owe(600)", clock.owe(600), 600);
        Check.same("owe(-600)", clock.owe(-600), 0);
        Check.same("owe(-600)", clock.owe(-600), -600);
        Check.same("owe(250)", clock.owe(250), -350);
        Check.same("owe(0)", clock.owe(0), -350);
        int[] wrong = {601, -601, Integer.MIN_VALUE, Integer.MAX_VALUE};
        for (int seconds : wrong) {
            Check.fails("owe(" + seconds + ")", ARGUMENT, () -> clock.owe(seconds));
        }
        Check.same("a wrong owe changes nothing", clock.owe(0), -350);
        Check.same("nothing moves by owing alone", clock.shown(), 0);
    }

    private static void promise15Limits() {
        for (int sign = -1; sign <= 1; sign += 2) {
            MinsterClock clock = new MinsterClock();
            int by = 600 * sign;
            int one = sign;
            for (int i = 1; i <= 6; i++) {
                Check.same("owe up to the most", clock.owe(by), by * i);
            }
            Check.fails("owe one more", ARGUMENT, () -> clock.owe(one));
            Check.fails("owe much more", ARGUMENT, () -> clock.owe(by));
            Check.same("the most stays", clock.owe(0), 3600 * sign);
            Check.same("one less", clock.owe(-one), 3599 * sign);
            Check.fails("two more", ARGUMENT, () -> clock.owe(2 * one));
            Check.same("one more", clock.owe(one), 3600 * sign);
        }
    }

    private static void correctionsForward() {
        MinsterClock clock = new MinsterClock();
        clock.owe(7);
        Check.same("no correction before the full minute", Clocks.shownBehind(clock, 59), 59);
        Check.same("at most the bound", Clocks.shownBehind(clock, 1), 65);
        Check.same("it is not owed any more", clock.owe(0), 2);
        Check.same("no correction in between", Clocks.shownBehind(clock, 54), 119);
        Check.same("what is left", Clocks.shownBehind(clock, 1), 122);
        Check.same("nothing is owed any more", clock.owe(0), 0);
        Check.same("no correction", Clocks.shownBehind(clock, 58), 180);
        clock.owe(4);
        Check.same("the full minute is over: no correction", Clocks.shownBehind(clock, 59), 239);
        Check.same("less than the bound", Clocks.shownBehind(clock, 1), 244);
        clock.owe(12);
        // 56 seconds to 300, which becomes 305; 55 to 360, 365; 55 to 420, 422; 58 to 480.
        Check.same("corrections within one call", Clocks.shownBehind(clock, 56 + 55 + 55 + 58 + 1), 481);
    }

    private static void correctionsBack() {
        MinsterClock clock = new MinsterClock();
        clock.owe(-7);
        Check.same("no correction before the full minute", Clocks.shownBehind(clock, 59), 59);
        Check.same("back by the bound", Clocks.shownBehind(clock, 1), 55);
        Check.same("still owed", clock.owe(0), -2);
        Check.same("no correction in between", Clocks.shownBehind(clock, 4), 59);
        Check.same("the full minute once more", Clocks.shownBehind(clock, 1), 58);
        Check.same("nothing is owed any more", clock.owe(0), 0);
        Check.same("the full minute for the third time", Clocks.shownBehind(clock, 2), 60);
        Check.same("and on", Clocks.shownBehind(clock, 60), 120);
    }

    private static void correctionsAtMarks() {
        MinsterClock clock = new MinsterClock();
        clock.pass(899);
        clock.owe(-12);
        Check.same("the mark strikes, then it goes back", clock.pass(1), 1);
        Check.same("the mark strikes, then it goes back", clock.shown(), 895);
        Check.same("the mark is not struck again", clock.pass(5), 0);
        Check.same("but corrected again", clock.shown(), 895);
        Check.same("the mark is not struck a third time", clock.pass(5), 0);
        Check.same("and the rest", clock.shown(), 898);
        Check.same("nor a fourth time", clock.pass(2), 0);
        Check.same("marks that struck", clock.strikes(), 1);
        clock.pass(2699);
        clock.setBound(30);
        clock.owe(-30);
        Check.same("the hour strikes once", clock.pass(1), 1);
        Check.same("it is 0:59:30", clock.hour() * 100 + clock.minute(), 59);
        Check.same("the hour strikes once", clock.pass(30), 0);
        Check.same("it is 1:00:00", clock.hour() * 100 + clock.minute(), 100);
        clock.owe(30);
        // Forward from 3660 to 3690: the quarter comes 30 seconds sooner.
        Check.same("sooner by what was owed", clock.pass(869), 0);
        Check.same("sooner by what was owed", clock.pass(1), 1);
        Check.same("4500 is shown", clock.shown(), 4500);
    }

    private static void correctionsOfTheWholeDebt() {
        MinsterClock back = new MinsterClock();
        back.setBound(30);
        for (int i = 0; i < 6; i++) {
            back.owe(-600);
        }
        // 60 seconds to the first correction, and 30 to each further one, 120 in all.
        Check.same("back by 3600", Clocks.shownBehind(back, 60 + 119 * 30), 30);
        Check.same("back by 3600", back.owe(0), 0);
        Check.same("and on", Clocks.shownBehind(back, 30), 60);
        MinsterClock on = new MinsterClock();
        on.setBound(30);
        for (int i = 0; i < 6; i++) {
            on.owe(600);
        }
        Check.same("on by 3600, strokes", on.pass(60 + 119 * 30), 1 + 2 + 3 + 1 + 1 + 2 + 3 + 2);
        Check.same("on by 3600", on.shown(), 60 + 119 * 30 + 3600);
        Check.same("on by 3600", on.owe(0), 0);
    }

    private static void promise16() {
        MinsterClock clock = new MinsterClock();
        int[] wrong = {-1, 31, Integer.MIN_VALUE, Integer.MAX_VALUE};
        for (int seconds : wrong) {
            Check.fails("setBound(" + seconds + ")", ARGUMENT, () -> clock.setBound(seconds));
        }
        Check.same("setBound(0)", clock.setBound(0), 5);
        clock.owe(40);
        Check.same("no correction with the bound 0", Clocks.shownBehind(clock, 60), 60);
        Check.same("still owed", clock.owe(0), 40);
        Check.same("setBound(30)", clock.setBound(30), 0);
        Check.same("by 30", Clocks.shownBehind(clock, 60), 150);
        Check.same("setBound(3)", clock.setBound(3), 30);
        Check.same("by 3", Clocks.shownBehind(clock, 30), 183);
        Check.same("left", clock.owe(0), 7);
        Check.same("setBound(3)", clock.setBound(3), 3);
    }
}
