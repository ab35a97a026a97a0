import java.math.BigInteger;
import java.time.LocalDate;
import java.util.ArrayList;
import java.util.List;
import java.util.NoSuchElementException;
import java.util.TreeSet;

/**
 * The document once more, in the slowest and plainest way: every second is lived through, and what lies ahead
 * is found by letting it happen to a copy. It shares no thought with MinsterClock, so that both err apart.
 */
public final class PlainClock {
    private record Wheel(int teeth, int leaves, BigInteger before) {
    }

    private record Pin(int step, int bell) implements Comparable<Pin> {
        @Override
        public int compareTo(Pin other) {
            return step != other.step ? step - other.step : bell - other.bell;
        }
    }

    private record Strike(int mark, int strokes) {
    }

    private List<Wheel> train = new ArrayList<>(List.of(new Wheel(30, 0, BigInteger.ZERO)));
    private long beats = 0;
    private int numerator = 1;
    private int denominator = 1;
    private int parts = 0;
    private int shown = 0;
    private int owed = 0;
    private int bound = 5;
    private TreeSet<Integer> reached = new TreeSet<>(List.of(0));
    private LocalDate date = LocalDate.of(2000, 1, 1);
    private boolean[] silent = new boolean[24];
    private boolean quarters = true;
    private List<TreeSet<Pin>> drums = new ArrayList<>();
    private int[] tunes = new int[24];
    private int[] strokes = new int[9];
    private List<Strike> struck = new ArrayList<>();

    public PlainClock() {
        java.util.Arrays.fill(tunes, -1);
    }

    private PlainClock copy() {
        PlainClock other = new PlainClock();
        other.train = new ArrayList<>(train);
        other.beats = beats;
        other.numerator = numerator;
        other.denominator = denominator;
        other.parts = parts;
        other.shown = shown;
        other.owed = owed;
        other.bound = bound;
        other.reached = new TreeSet<>(reached);
        other.date = date;
        other.silent = silent.clone();
        other.quarters = quarters;
        other.drums = drums;
        other.tunes = tunes.clone();
        other.strokes = strokes.clone();
        other.struck = new ArrayList<>(struck);
        return other;
    }

    private static void argument(boolean isRight) {
        if (!isRight) {
            throw new IllegalArgumentException();
        }
    }

    private static void index(boolean isRight) {
        if (!isRight) {
            throw new IndexOutOfBoundsException();
        }
    }

    private static void element(boolean isRight) {
        if (!isRight) {
            throw new NoSuchElementException();
        }
    }

    private static void state(boolean isRight) {
        if (!isRight) {
            throw new IllegalStateException();
        }
    }

    private BigInteger teethMoved(int wheel) {
        if (wheel == 0) {
            return BigInteger.valueOf(beats);
        }
        Wheel own = train.get(wheel);
        BigInteger x = teethMoved(wheel - 1).subtract(own.before);
        return x.multiply(BigInteger.valueOf(own.leaves)).divide(BigInteger.valueOf(train.get(wheel - 1).teeth));
    }

    public int addWheel(int teeth, int leaves) {
        argument(teeth >= 6 && teeth <= 120 && leaves >= 6 && leaves <= 24);
        state(train.size() < 6);
        train.add(new Wheel(teeth, leaves, teethMoved(train.size() - 1)));
        return train.size() - 1;
    }

    public int wheels() {
        return train.size();
    }

    public int moved(int wheel) {
        index(wheel >= 0 && wheel < train.size());
        return teethMoved(wheel).intValueExact();
    }

    public int wholeTurns(int wheel) {
        return moved(wheel) / train.get(wheel).teeth;
    }

    public double beatsForTurn(int wheel) {
        index(wheel >= 0 && wheel < train.size());
        return wheel == 0 ? 30.0 : (beatsForTurn(wheel - 1) * train.get(wheel).teeth) / train.get(wheel).leaves;
    }

    public int movedAhead(int wheel, int beats) {
        index(wheel >= 0 && wheel < train.size());
        argument(beats >= 1 && beats <= 5000);
        this.beats += beats;
        int teeth = moved(wheel);
        this.beats -= beats;
        return teeth;
    }

    public int movedByBeats(int wheel, int beats) {
        return movedAhead(wheel, beats);
    }

    public int setBeat(int numerator, int denominator) {
        argument(numerator >= 1 && numerator <= 20);
        argument(denominator >= 1 && denominator <= 20);
        int before = this.numerator;
        this.numerator = numerator;
        this.denominator = denominator;
        parts = 0;
        return before;
    }

    public int pass(int beats) {
        argument(beats >= 1 && beats <= 5000);
        int sum = 0;
        for (int i = 0; i < beats; i++) {
            this.beats++;
            parts += numerator;
            while (parts >= denominator) {
                parts -= denominator;
                sum += second();
            }
        }
        return sum;
    }

    private int second() {
        int sum = 0;
        shown++;
        if (shown % 86400 == 0) {
            date = date.plusDays(1);
        }
        if (shown % 900 == 0 && reached.last() < shown / 900) {
            reached.add(shown / 900);
            sum = strike(shown / 900);
        }
        if (shown % 60 == 0 && owed != 0) {
            int step = owed > 0 ? 1 : -1;
            for (int i = 0; i < bound && owed != 0; i++) {
                shown += step;
                owed -= step;
                if (step == -1 && shown % 86400 == 86399) {
                    date = date.minusDays(1);
                }
            }
        }
        return sum;
    }

    private int strike(int mark) {
        int hour = mark / 4 % 24;
        if (silent[hour] || (mark % 4 != 0 && !quarters)) {
            return 0;
        }
        int sum = 0;
        if (mark % 4 != 0) {
            strokes[1] += mark % 4;
            sum += mark % 4;
        } else {
            int counted = hour > 12 ? hour - 12 : hour == 0 ? 12 : hour;
            strokes[0] += counted;
            sum += counted;
            if (tunes[hour] != -1) {
                for (Pin pin : drums.get(tunes[hour])) {
                    strokes[pin.bell]++;
                    sum++;
                }
            }
        }
        struck.add(0, new Strike(mark, sum));
        return sum;
    }

    public long beats() {
        return beats;
    }

    public int shown() {
        return shown;
    }

    public int hour() {
        return shown % 86400 / 3600;
    }

    public int minute() {
        return shown % 3600 / 60;
    }

    public int owe(int seconds) {
        argument(seconds >= -600 && seconds <= 600);
        argument(Math.abs(owed + seconds) <= 3600);
        owed += seconds;
        return owed;
    }

    public int setBound(int seconds) {
        argument(seconds >= 0 && seconds <= 30);
        int before = bound;
        bound = seconds;
        return before;
    }

    private static LocalDate dateOf(int year, int month, int day) {
        argument(year >= 1 && year <= 3000 && month >= 1 && month <= 12 && day >= 1);
        argument(day <= java.time.YearMonth.of(year, month).lengthOfMonth());
        return LocalDate.of(year, month, day);
    }

    public int setDate(int year, int month, int day) {
        LocalDate wanted = dateOf(year, month, day);
        argument(year >= 1600);
        date = wanted;
        return weekday();
    }

    public int year() {
        return date.getYear();
    }

    public int month() {
        return date.getMonthValue();
    }

    public int day() {
        return date.getDayOfMonth();
    }

    public int weekday() {
        return date.getDayOfWeek().getValue() - 1;
    }

    public boolean isLeap(int year) {
        argument(year >= 1 && year <= 3000);
        return java.time.Year.isLeap(year);
    }

    public long numberOf(int year, int month, int day) {
        return dateOf(year, month, day).toEpochDay() - LocalDate.of(1, 1, 1).toEpochDay() + 1;
    }

    public long numberByCounting(int year, int month, int day) {
        return numberOf(year, month, day);
    }

    public int setSilence(int from, int to) {
        argument(from >= 0 && from <= 23 && to >= 0 && to <= 23);
        silent = new boolean[24];
        int count = 0;
        for (int hour = from; hour != to; hour = (hour + 1) % 24) {
            silent[hour] = true;
            count++;
        }
        return count;
    }

    public boolean setQuarters(boolean isOn) {
        boolean before = quarters;
        quarters = isOn;
        return before;
    }

    public int addDrum() {
        state(drums.size() < 4);
        drums.add(new TreeSet<>());
        return drums.size() - 1;
    }

    public boolean setPin(int drum, int step, int bell, boolean isSet) {
        index(drum >= 0 && drum < drums.size());
        argument(step >= 0 && step <= 31 && bell >= 1 && bell <= 8);
        Pin pin = new Pin(step, bell);
        return isSet ? !drums.get(drum).add(pin) : drums.get(drum).remove(pin);
    }

    public int pins(int drum) {
        index(drum >= 0 && drum < drums.size());
        return drums.get(drum).size();
    }

    public int bellAt(int drum, int index) {
        index(drum >= 0 && drum < drums.size());
        element(index >= 0 && index < drums.get(drum).size());
        return new ArrayList<>(drums.get(drum)).get(index).bell;
    }

    public int setTune(int hour, int drum) {
        argument(hour >= 0 && hour <= 23);
        index(drum >= -1 && drum < drums.size());
        int before = tunes[hour];
        tunes[hour] = drum;
        return before;
    }

    public int strokes(int bell) {
        index(bell >= 0 && bell <= 8);
        return strokes[bell];
    }

    public int strikes() {
        return struck.size();
    }

    public int markAt(int rank) {
        element(rank >= 0 && rank < 40 && rank < struck.size());
        return struck.get(rank).mark;
    }

    public int strokesAt(int mark) {
        for (int rank = 0; rank < 40 && rank < struck.size(); rank++) {
            if (struck.get(rank).mark == mark) {
                return struck.get(rank).strokes;
            }
        }
        throw new NoSuchElementException();
    }

    public int strokesAhead(int beats) {
        return copy().pass(beats);
    }

    public int strokesByBeats(int beats) {
        return copy().pass(beats);
    }

    public float struckShare() {
        if (reached.last() == 0) {
            throw new ArithmeticException();
        }
        return (float) struck.size() / (float) (int) reached.last();
    }

    public boolean isOnce() {
        return true;
    }
}
