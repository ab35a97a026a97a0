import java.util.ArrayList;
import java.util.List;

/** Two clocks that are made alike: one is asked, the other is not, and both must then answer alike. */
final class Twins {
    interface Step {
        void on(MinsterClock clock);
    }

    private Twins() {
    }

    /** Checks that a call is refused with the exception that is due, and that it changes nothing. */
    static void refuses(String what, Step make, Class<? extends RuntimeException> due, Step call) {
        MinsterClock asked = made(make);
        Check.fails(what, due, () -> {
            call.on(asked);
            return "an answer";
        });
        Check.same(what + " changes nothing", answers(asked), answers(made(make)));
    }

    /** Checks that a call which only asks changes nothing. */
    static void keeps(String what, Step make, Step call) {
        MinsterClock asked = made(make);
        call.on(asked);
        Check.same(what + " changes nothing", answers(asked), answers(made(make)));
    }

    private static MinsterClock made(Step make) {
        MinsterClock clock = new MinsterClock();
        make.on(clock);
        return clock;
    }

    /**
     * Asks all that can be asked, and what comes of it; this changes the clock, in some 300 calls. What may be refused
     * is asked last: a refusal that spoils something would else spoil it in both clocks before it can be seen.
     */
    private static List<Object> answers(MinsterClock clock) {
        List<Object> answers = new ArrayList<>();
        askTrain(clock, answers);
        askState(clock, answers);
        askLog(clock, answers);
        letPass(clock, answers);
        askSettings(clock, answers);
        askDrums(clock, answers);
        askLimits(clock, answers);
        return answers;
    }

    private static void ask(List<Object> answers, Check.Call call) {
        answers.add(Check.outcome(call));
    }

    private static void askTrain(MinsterClock clock, List<Object> answers) {
        int wheels = clock.wheels();
        answers.add(wheels);
        for (int wheel = 0; wheel < wheels; wheel++) {
            answers.add(clock.moved(wheel));
            answers.add(clock.wholeTurns(wheel));
            answers.add(clock.beatsForTurn(wheel));
            answers.add(clock.movedByBeats(wheel, 99));
        }
    }

    private static void askState(MinsterClock clock, List<Object> answers) {
        answers.add(clock.beats());
        answers.add(clock.shown());
        answers.add(Clocks.time(clock));
        answers.add(Clocks.date(clock));
        int strikes = clock.strikes();
        answers.add(strikes);
        answers.add(strikes > 0 ? clock.struckShare() : 0.0f);
        for (int bell = 0; bell <= 8; bell++) {
            answers.add(clock.strokes(bell));
        }
    }

    private static void askLog(MinsterClock clock, List<Object> answers) {
        int kept = Math.min(40, clock.strikes());
        for (int rank = 0; rank < kept; rank++) {
            int mark = clock.markAt(rank);
            answers.add(mark);
            answers.add(clock.strokesAt(mark));
        }
    }

    private static void askDrums(MinsterClock clock, List<Object> answers) {
        for (int drum = 0; drum <= 4; drum++) {
            int number = drum;
            Object pins = Check.outcome(() -> clock.pins(number));
            answers.add(pins);
            int asked = pins instanceof Integer count ? Math.min(10, count) : 0;
            for (int index = 0; index < asked; index++) {
                answers.add(clock.bellAt(drum, index));
            }
        }
    }

    /** Small beats show the fraction and what is kept of a second; a day shows the tunes, the silence and the debt. */
    private static void letPass(MinsterClock clock, List<Object> answers) {
        for (int beat = 0; beat < 20; beat++) {
            answers.add(clock.pass(1));
            answers.add(clock.shown());
        }
        answers.add(clock.owe(0));
        answers.add(clock.setBeat(20, 1));
        for (int hour = 0; hour < 24; hour++) {
            answers.add(clock.pass(180));
        }
        askState(clock, answers);
        answers.add(clock.owe(0));
    }

    private static void askSettings(MinsterClock clock, List<Object> answers) {
        answers.add(clock.setBound(5));
        answers.add(clock.setQuarters(true));
        for (int hour = 0; hour < 24; hour++) {
            answers.add(clock.setTune(hour, -1));
        }
    }

    private static void askLimits(MinsterClock clock, List<Object> answers) {
        ask(answers, clock::struckShare);
        ask(answers, () -> clock.markAt(clock.strikes()));
        ask(answers, () -> clock.addWheel(6, 6));
        ask(answers, clock::addDrum);
    }
}
