/**
 * A rain recorder: film, tipping bucket, clock with gears, marks and storms, accounts, texts.
 *
 * All rows are made in the constructor and used again, so that no call makes an object.
 */
public final class RainRecorder {
    public static final int INVALID_ARGUMENT = -1;
    public static final int NOT_POSSIBLE = -2;
    public static final int LIMIT_REACHED = -3;
    public static final int NOT_FOUND = -4;

    private static final int LAST_TICK = 5000;
    private static final int MOST_TICKS = 1000;
    private static final int MOST_SHOWERS = 12;
    private static final int MOST_LENGTH = 500;
    private static final int MOST_RATE = 200;

    private static final int CAPACITY = 0;
    private static final int TIP_TICKS = 1;
    private static final int FILM_CAPACITY = 2;
    private static final int FILM_DRYING = 3;
    private static final int BUCKET_DRYING = 4;
    private static final int DRUM_TEETH = 5;
    private static final int RESERVE = 6;
    private static final int GAP = 7;
    private static final int SETTINGS = 8;
    private static final int[] LEAST_VALUES = {20, 0, 0, 0, 0, 10, 1, 1};
    private static final int[] GREATEST_VALUES = {500, 20, 200, 50, 50, 1000, 2000, 1000};
    private static final int[] FIRST_VALUES = {100, 2, 10, 1, 0, 360, 500, 60};

    private static final int MOST_PAIRS = 3;
    private static final int LEAST_WHEEL = 8;
    private static final int GREATEST_WHEEL = 120;
    private static final int MOST_COUNTS_OF_TURN = 100000;

    private static final int MOST_MARKS = 60;
    private static final int PEAK_TICKS = 30;
    private static final int GREATEST_GAP = 1000;
    private static final int MOST_LOSS = 100000;
    private static final int MOST_STATES = 5;

    private static final int MOST_CHARACTERS = 100;
    private static final int MOST_DIGITS = 4;
    private static final int NO_FAULT = 0;
    private static final int NUMBER_MISSING = 1;
    private static final int SIGN_MISPLACED = 2;
    private static final int OUT_OF_RANGE = 3;
    private static final int TOO_MANY = 4;

    /** Stands for "no tip" and "no mark", where 0 would mean something. */
    private static final int NONE = -1;
    private static final int NO_ERROR = 0;

    private final State now = new State();
    private final State trial = new State();
    private final History history = new History();
    private final Outlook outlook = new Outlook();
    private final Text text = new Text();
    private final Reading reading = new Reading();

    public RainRecorder() {
    }

    // ---- rain

    public int addShower(int begin, int length, int rate) {
        if (!isWithin(begin, now.tick, LAST_TICK) || !isWithin(length, 1, MOST_LENGTH)
                || !isWithin(rate, 1, MOST_RATE)) {
            return INVALID_ARGUMENT;
        }
        if (now.showers.size >= MOST_SHOWERS) {
            return LIMIT_REACHED;
        }
        history.keep(now);
        return now.showers.insert(begin, length, rate);
    }

    public int cancel(int shower) {
        if (!now.showers.has(shower)) {
            return INVALID_ARGUMENT;
        }
        if (now.showers.begins[shower] < now.tick) {
            return NOT_POSSIBLE;
        }
        history.keep(now);
        now.showers.removeAt(shower);
        return now.showers.size;
    }

    public int shower(int shower, int what) {
        if (!now.showers.has(shower)) {
            return INVALID_ARGUMENT;
        }
        switch (what) {
            case 0:
                return now.showers.begins[shower];
            case 1:
                return now.showers.lengths[shower];
            case 2:
                return now.showers.rates[shower];
            case 3:
                return now.showers.ticksToCome(shower, now.tick);
            default:
                return INVALID_ARGUMENT;
        }
    }

    public int run(int ticks) {
        int error = errorOfTicks(ticks);
        if (error != NO_ERROR) {
            return error;
        }
        history.keep(now);
        return now.passTicks(ticks);
    }

    public int undo() {
        if (history.size == 0) {
            return NOT_POSSIBLE;
        }
        history.restoreInto(now);
        return history.size;
    }

    // ---- recorder and clock

    public int set(int what, int value) {
        if (!isWithin(what, 0, SETTINGS - 1) || !isWithin(value, LEAST_VALUES[what], GREATEST_VALUES[what])) {
            return INVALID_ARGUMENT;
        }
        history.keep(now);
        int previous = now.settings[what];
        now.settings[what] = value;
        return previous;
    }

    public int wind() {
        history.keep(now);
        int previous = now.clock.reserve;
        now.clock.reserve = now.settings[RESERVE];
        return previous;
    }

    public int addGears(int first, int second) {
        if (!isWithin(first, LEAST_WHEEL, GREATEST_WHEEL) || !isWithin(second, LEAST_WHEEL, GREATEST_WHEEL)) {
            return INVALID_ARGUMENT;
        }
        if (now.gears.size >= MOST_PAIRS) {
            return LIMIT_REACHED;
        }
        history.keep(now);
        now.gears.append(first, second);
        return now.gears.size;
    }

    public int removeGears(int pair) {
        if (!now.gears.has(pair)) {
            return INVALID_ARGUMENT;
        }
        history.keep(now);
        now.gears.removeAt(pair);
        return now.gears.size;
    }

    public int gear(int pair, int wheel) {
        if (!now.gears.has(pair) || !isWithin(wheel, 0, 1)) {
            return INVALID_ARGUMENT;
        }
        return wheel == 0 ? now.gears.firsts[pair] : now.gears.seconds[pair];
    }

    public int count(int what) {
        if (isWithin(what, 20, 20 + SETTINGS - 1)) {
            return now.settings[what - 20];
        }
        switch (what) {
            case 0:
                return now.tick;
            case 1:
                return now.showers.size;
            case 2:
                return now.marks.size;
            case 3:
                return now.marks.countStorms(now.settings[GAP]);
            case 4:
                return now.film.content;
            case 5:
                return now.bucket.content;
            case 6:
                return now.bucket.tipLeft;
            case 7:
                return now.clock.reserve;
            case 8:
                return now.clock.counted;
            case 9:
                return now.drumPlace();
            case 10:
                return now.gears.size;
            case 11:
                return history.size;
            case 12:
                return text.length;
            case 13:
                return now.showers.rainIn(now.tick);
            default:
                return INVALID_ARGUMENT;
        }
    }

    public int account(int what) {
        return isWithin(what, 0, 4) ? now.accountOf(what) : INVALID_ARGUMENT;
    }

    public int mark(int mark, int what) {
        if (!now.marks.has(mark)) {
            return INVALID_ARGUMENT;
        }
        switch (what) {
            case 0:
                return now.marks.ticks[mark];
            case 1:
                return now.marks.places[mark];
            case 2:
                return now.marks.overs[mark];
            default:
                return INVALID_ARGUMENT;
        }
    }

    // ---- storms and estimates

    public int storm(int storm, int what) {
        int gap = now.settings[GAP];
        int first = now.marks.firstOfStorm(storm, gap);
        if (first == NONE) {
            return INVALID_ARGUMENT;
        }
        int end = now.marks.endOfStorm(first, gap);
        switch (what) {
            case 0:
                return first;
            case 1:
                return end - first;
            case 2:
                return now.marks.ticksBetween(first, end - 1);
            case 3:
                return amountOf(first, end);
            case 4:
                return lossOf(first, end);
            case 5:
                return now.marks.peak(first, end);
            default:
                return INVALID_ARGUMENT;
        }
    }

    public int greatestStorm() {
        int gap = now.settings[GAP];
        int storms = now.marks.countStorms(gap);
        int greatest = NOT_FOUND;
        int greatestSum = NONE;
        for (int storm = 0; storm < storms; storm++) {
            int first = now.marks.firstOfStorm(storm, gap);
            int end = now.marks.endOfStorm(first, gap);
            int sum = amountOf(first, end) + lossOf(first, end);
            if (sum > greatestSum) {
                greatestSum = sum;
                greatest = storm;
            }
        }
        return greatest;
    }

    public int gapForOne() {
        if (now.marks.size == 0) {
            return NOT_FOUND;
        }
        int gap = Math.max(1, now.marks.widestGap());
        return gap <= GREATEST_GAP ? gap : NOT_FOUND;
    }

    public int ifRun(int ticks, int what) {
        if (!isWithin(what, 0, 7)) {
            return INVALID_ARGUMENT;
        }
        int error = errorOfTicks(ticks);
        if (error != NO_ERROR) {
            return error;
        }
        trial.copyFrom(now);
        int tips = trial.passTicks(ticks);
        switch (what) {
            case 0:
                return tips;
            case 5:
                return trial.film.content;
            case 6:
                return trial.bucket.content;
            case 7:
                return trial.drumPlace();
            default:
                return trial.accountOf(what) - now.accountOf(what);
        }
    }

    public int capacityFor(int ticks, int most) {
        if (!isWithin(most, 0, MOST_LOSS)) {
            return INVALID_ARGUMENT;
        }
        int error = errorOfTicks(ticks);
        if (error != NO_ERROR) {
            return error;
        }
        trial.copyFrom(now);
        outlook.lookAhead(trial, ticks);
        for (int capacity = LEAST_VALUES[CAPACITY]; capacity <= GREATEST_VALUES[CAPACITY]; capacity++) {
            trial.bucket.copyFrom(now.bucket);
            if (outlook.losesAtMost(most, capacity, trial)) {
                return capacity;
            }
        }
        return NOT_FOUND;
    }

    public int untilStop() {
        return now.clock.reserve;
    }

    public int gearsFor(int ticks) {
        if (!isWithin(ticks, 1, MOST_COUNTS_OF_TURN)) {
            return INVALID_ARGUMENT;
        }
        int teeth = now.settings[DRUM_TEETH];
        for (int first = LEAST_WHEEL; first <= GREATEST_WHEEL; first++) {
            int second = quotient(ticks * first, teeth);
            if (teeth * second == ticks * first && isWithin(second, LEAST_WHEEL, GREATEST_WHEEL)) {
                return 1000 * first + second;
            }
        }
        return NOT_FOUND;
    }

    // ---- texts

    public int type(int character) {
        if (!isWithin(character, 32, 126)) {
            return INVALID_ARGUMENT;
        }
        if (text.length >= MOST_CHARACTERS) {
            return LIMIT_REACHED;
        }
        text.append((char) character);
        return text.length;
    }

    public int clearText() {
        int previous = text.length;
        text.length = 0;
        return previous;
    }

    public int fault(int what) {
        if (!isWithin(what, 0, 1)) {
            return INVALID_ARGUMENT;
        }
        reading.read(text, now.tick, now.showers.size);
        if (reading.reason == NO_FAULT) {
            return NOT_FOUND;
        }
        return what == 0 ? reading.position : reading.reason;
    }

    public int lay() {
        reading.read(text, now.tick, now.showers.size);
        if (reading.reason != NO_FAULT) {
            return NOT_POSSIBLE;
        }
        history.keep(now);
        for (int i = 0; i < reading.size && i < MOST_SHOWERS; i++) {
            now.showers.insert(reading.begins[i], reading.lengths[i], reading.rates[i]);
        }
        return reading.size;
    }

    // ---- what several calls need

    private int errorOfTicks(int ticks) {
        if (!isWithin(ticks, 1, MOST_TICKS)) {
            return INVALID_ARGUMENT;
        }
        return now.tick + ticks > LAST_TICK ? LIMIT_REACHED : NO_ERROR;
    }

    private int amountOf(int first, int end) {
        return (end - first) * now.settings[CAPACITY];
    }

    private int lossOf(int first, int end) {
        return now.marks.lossBetweenTips(first, end, now.settings[CAPACITY] * now.settings[TIP_TICKS]);
    }

    private static boolean isWithin(int value, int least, int greatest) {
        return value >= least && value <= greatest;
    }

    /** The divisors are never 0 as the settings stand; the test keeps the machine from throwing all the same. */
    private static int quotient(int dividend, int divisor) {
        return divisor == 0 ? 0 : Math.floorDiv(dividend, divisor);
    }

    private static void copyRow(int[] from, int[] to) {
        System.arraycopy(from, 0, to, 0, Math.min(from.length, to.length));
    }

    /** The showers that are told ahead, in the order of their begins. */
    private static final class Showers {
        final int[] begins = new int[MOST_SHOWERS];
        final int[] lengths = new int[MOST_SHOWERS];
        final int[] rates = new int[MOST_SHOWERS];
        int size;

        void copyFrom(Showers other) {
            copyRow(other.begins, begins);
            copyRow(other.lengths, lengths);
            copyRow(other.rates, rates);
            size = other.size;
        }

        boolean has(int shower) {
            return shower >= 0 && shower < size;
        }

        int insert(int begin, int length, int rate) {
            if (size >= MOST_SHOWERS) {
                return LIMIT_REACHED;
            }
            int place = size;
            for (; place > 0 && begins[place - 1] > begin; place--) {
                move(place - 1, place);
            }
            begins[place] = begin;
            lengths[place] = length;
            rates[place] = rate;
            size++;
            return place;
        }

        void removeAt(int shower) {
            if (!has(shower)) {
                return;
            }
            for (int i = shower + 1; i < size; i++) {
                move(i, i - 1);
            }
            size--;
        }

        void removeEnded(int tick) {
            int kept = 0;
            for (int i = 0; i < size; i++) {
                if (begins[i] + lengths[i] > tick) {
                    move(i, kept);
                    kept++;
                }
            }
            size = kept;
        }

        /** Both places are looked at by the callers: they stand below the size, or just at it while there is room. */
        private void move(int from, int to) {
            begins[to] = begins[from];
            lengths[to] = lengths[from];
            rates[to] = rates[from];
        }

        int rainIn(int tick) {
            int rain = 0;
            for (int i = 0; i < size; i++) {
                if (begins[i] <= tick && tick < begins[i] + lengths[i]) {
                    rain += rates[i];
                }
            }
            return rain;
        }

        int ticksToCome(int shower, int tick) {
            if (!has(shower)) {
                return 0;
            }
            return begins[shower] + lengths[shower] - Math.max(begins[shower], tick);
        }
    }

    /** The film on the funnel. */
    private static final class Film {
        int content;
        int dried;

        void copyFrom(Film other) {
            content = other.content;
            dried = other.dried;
        }

        /** Takes what it lacks, dries if no rain falls, and returns what is left of the rain. */
        int passTick(int rain, int capacity, int drying) {
            int taken = Math.min(rain, Math.max(0, capacity - content));
            content += taken;
            if (rain == 0) {
                int loss = Math.min(content, drying);
                content -= loss;
                dried += loss;
            }
            return rain - taken;
        }
    }

    /** The bucket, with the accounts that it alone makes grow. */
    private static final class Bucket {
        int content;
        int tipLeft;
        int tipped;
        int over;
        int lost;
        int dried;

        void copyFrom(Bucket other) {
            content = other.content;
            tipLeft = other.tipLeft;
            tipped = other.tipped;
            over = other.over;
            lost = other.lost;
            dried = other.dried;
        }

        /** Returns what was over if it tips in this tick, and NONE if it does not. */
        int passTick(int rain, boolean dry, int capacity, int tipTicks, int drying) {
            if (tipLeft > 0) {
                lost += rain;
                tipLeft--;
                return NONE;
            }
            content += rain;
            if (dry) {
                int loss = Math.min(content, drying);
                content -= loss;
                dried += loss;
            }
            return content >= capacity ? tip(capacity, tipTicks) : NONE;
        }

        private int tip(int capacity, int tipTicks) {
            int above = content - capacity;
            tipped += capacity;
            over += above;
            content = 0;
            tipLeft = tipTicks;
            return above;
        }
    }

    /** The clock: its spring's reserve and what it has counted. */
    private static final class Clock {
        int reserve = FIRST_VALUES[RESERVE];
        int counted;

        void copyFrom(Clock other) {
            reserve = other.reserve;
            counted = other.counted;
        }

        void passTick() {
            if (reserve > 0) {
                reserve--;
                counted++;
            }
        }
    }

    /** The pairs of gears between the clock and the drum. */
    private static final class Gears {
        final int[] firsts = new int[MOST_PAIRS];
        final int[] seconds = new int[MOST_PAIRS];
        int size;

        void copyFrom(Gears other) {
            copyRow(other.firsts, firsts);
            copyRow(other.seconds, seconds);
            size = other.size;
        }

        boolean has(int pair) {
            return pair >= 0 && pair < size;
        }

        void append(int first, int second) {
            if (size >= MOST_PAIRS) {
                return;
            }
            firsts[size] = first;
            seconds[size] = second;
            size++;
        }

        void removeAt(int pair) {
            if (!has(pair)) {
                return;
            }
            for (int i = pair + 1; i < size; i++) {
                firsts[i - 1] = firsts[i];
                seconds[i - 1] = seconds[i];
            }
            size--;
        }

        /** Long, as 5000 counts times three wheels of 120 teeth are more than an int holds. */
        int placeOf(int counted, int teeth) {
            long turned = counted;
            long divisor = 1;
            for (int i = 0; i < size; i++) {
                turned *= firsts[i];
                divisor *= seconds[i];
            }
            if (divisor == 0 || teeth == 0) {
                return 0;
            }
            return (int) (turned / divisor % teeth);
        }
    }

    /** The latest marks on the drum, the oldest one first, and the storms that are told from them. */
    private static final class Marks {
        final int[] ticks = new int[MOST_MARKS];
        final int[] places = new int[MOST_MARKS];
        final int[] overs = new int[MOST_MARKS];
        int size;

        void copyFrom(Marks other) {
            copyRow(other.ticks, ticks);
            copyRow(other.places, places);
            copyRow(other.overs, overs);
            size = other.size;
        }

        boolean has(int mark) {
            return mark >= 0 && mark < size;
        }

        void append(int tick, int place, int over) {
            if (size >= MOST_MARKS) {
                removeOldest();
            }
            ticks[size] = tick;
            places[size] = place;
            overs[size] = over;
            size++;
        }

        private void removeOldest() {
            size = MOST_MARKS - 1;
            System.arraycopy(ticks, 1, ticks, 0, size);
            System.arraycopy(places, 1, places, 0, size);
            System.arraycopy(overs, 1, overs, 0, size);
        }

        int ticksBetween(int mark, int later) {
            return has(mark) && has(later) ? ticks[later] - ticks[mark] : 0;
        }

        int widestGap() {
            int widest = 0;
            for (int i = 1; i < size; i++) {
                widest = Math.max(widest, ticksBetween(i - 1, i));
            }
            return widest;
        }

        private boolean beginsStorm(int mark, int gap) {
            return mark == 0 || ticksBetween(mark - 1, mark) > gap;
        }

        int countStorms(int gap) {
            int storms = 0;
            for (int i = 0; i < size; i++) {
                if (beginsStorm(i, gap)) {
                    storms++;
                }
            }
            return storms;
        }

        /** The first mark of a storm, or NONE if there is no such storm. */
        int firstOfStorm(int number, int gap) {
            int storms = 0;
            for (int i = 0; i < size; i++) {
                if (beginsStorm(i, gap)) {
                    if (storms == number) {
                        return i;
                    }
                    storms++;
                }
            }
            return NONE;
        }

        /** The number behind that of the last mark of the storm that begins with a mark. */
        int endOfStorm(int first, int gap) {
            for (int i = first + 1; i < size; i++) {
                if (beginsStorm(i, gap)) {
                    return i;
                }
            }
            return size;
        }

        int lossBetweenTips(int first, int end, int lossOfOneTick) {
            int loss = 0;
            for (int i = first + 1; i < end; i++) {
                loss += quotient(lossOfOneTick, ticksBetween(i - 1, i));
            }
            return loss;
        }

        int peak(int first, int end) {
            int peak = 0;
            int oldest = first;
            for (int i = first; i < end; i++) {
                while (oldest < i && ticksBetween(oldest, i) >= PEAK_TICKS) {
                    oldest++;
                }
                peak = Math.max(peak, i - oldest + 1);
            }
            return peak;
        }
    }

    /** Everything but the text and the history. */
    private static final class State {
        final int[] settings = new int[SETTINGS];
        final Showers showers = new Showers();
        final Film film = new Film();
        final Bucket bucket = new Bucket();
        final Clock clock = new Clock();
        final Gears gears = new Gears();
        final Marks marks = new Marks();
        int tick;
        int fell;

        State() {
            copyRow(FIRST_VALUES, settings);
        }

        void copyFrom(State other) {
            copyRow(other.settings, settings);
            showers.copyFrom(other.showers);
            film.copyFrom(other.film);
            bucket.copyFrom(other.bucket);
            clock.copyFrom(other.clock);
            gears.copyFrom(other.gears);
            marks.copyFrom(other.marks);
            tick = other.tick;
            fell = other.fell;
        }

        /** Returns the number of tips. */
        int passTicks(int number) {
            int tips = 0;
            for (int i = 0; i < number; i++) {
                if (passTick()) {
                    tips++;
                }
            }
            return tips;
        }

        private boolean passTick() {
            int rain = showers.rainIn(tick);
            fell += rain;
            int left = film.passTick(rain, settings[FILM_CAPACITY], settings[FILM_DRYING]);
            int over = bucket.passTick(left, rain == 0, settings[CAPACITY], settings[TIP_TICKS],
                    settings[BUCKET_DRYING]);
            // The mark stands where the drum is before the clock counts.
            if (over != NONE) {
                marks.append(tick, drumPlace(), over);
            }
            clock.passTick();
            tick++;
            showers.removeEnded(tick);
            return over != NONE;
        }

        int drumPlace() {
            return gears.placeOf(clock.counted, settings[DRUM_TEETH]);
        }

        int accountOf(int what) {
            switch (what) {
                case 0:
                    return fell;
                case 1:
                    return bucket.tipped;
                case 2:
                    return bucket.over;
                case 3:
                    return bucket.lost;
                default:
                    return film.dried + bucket.dried;
            }
        }
    }

    /** The states before the latest changes, the oldest one first. */
    private static final class History {
        final State[] states = new State[MOST_STATES];
        int size;

        History() {
            for (int i = 0; i < MOST_STATES; i++) {
                states[i] = new State();
            }
        }

        void keep(State state) {
            if (size >= MOST_STATES) {
                dropOldest();
            }
            states[size].copyFrom(state);
            size++;
        }

        /** The dropped state goes behind the others, to be written over. */
        private void dropOldest() {
            State oldest = states[0];
            for (int i = 1; i < MOST_STATES; i++) {
                states[i - 1] = states[i];
            }
            states[MOST_STATES - 1] = oldest;
            size = MOST_STATES - 1;
        }

        void restoreInto(State state) {
            if (size > 0) {
                size--;
                state.copyFrom(states[size]);
            }
        }
    }

    /**
     * What will come out of the funnel in the ticks to come.
     *
     * The film knows nothing of the bucket, so this is told once for all the capacities that are tried.
     */
    private static final class Outlook {
        final int[] left = new int[MOST_TICKS];
        final boolean[] dry = new boolean[MOST_TICKS];
        int size;

        void lookAhead(State state, int ticks) {
            size = Math.min(ticks, MOST_TICKS);
            for (int i = 0; i < size; i++) {
                int rain = state.showers.rainIn(state.tick + i);
                left[i] = state.film.passTick(rain, state.settings[FILM_CAPACITY], state.settings[FILM_DRYING]);
                dry[i] = rain == 0;
            }
        }

        boolean losesAtMost(int most, int capacity, State state) {
            Bucket bucket = state.bucket;
            int tipTicks = state.settings[TIP_TICKS];
            int drying = state.settings[BUCKET_DRYING];
            int allowed = bucket.lost + bucket.over + most;
            for (int i = 0; i < size && bucket.lost + bucket.over <= allowed; i++) {
                bucket.passTick(left[i], dry[i], capacity, tipTicks, drying);
            }
            return bucket.lost + bucket.over <= allowed;
        }
    }

    /** The text that is typed. */
    private static final class Text {
        final char[] characters = new char[MOST_CHARACTERS];
        int length;

        void append(char character) {
            if (length < MOST_CHARACTERS) {
                characters[length] = character;
                length++;
            }
        }

        /** The character with the number 0, which can't be typed, stands behind the end. */
        char characterAt(int position) {
            return position >= 0 && position < length ? characters[position] : (char) 0;
        }

        boolean hasDigitAt(int position) {
            char character = characterAt(position);
            return character >= '0' && character <= '9';
        }
    }

    /** What a text says: its showers, or the position and the reason of its fault. */
    private static final class Reading {
        final int[] begins = new int[MOST_SHOWERS];
        final int[] lengths = new int[MOST_SHOWERS];
        final int[] rates = new int[MOST_SHOWERS];
        int size;
        int position;
        int reason;
        private int next;

        void read(Text text, int tick, int told) {
            size = 0;
            next = 0;
            reason = NO_FAULT;
            // The shower behind the twelfth is a fault at the latest, and ends the loop.
            for (int i = 0; i <= MOST_SHOWERS && reason == NO_FAULT && next < text.length; i++) {
                position = next;
                readShower(text, tick, told);
            }
        }

        private void readShower(Text text, int tick, int told) {
            int begin = tick + readNumber(text, '+');
            int length = readNumber(text, '*');
            int rate = readNumber(text, ';');
            if (reason != NO_FAULT) {
                return;
            }
            if (begin > LAST_TICK || !isWithin(length, 1, MOST_LENGTH) || !isWithin(rate, 1, MOST_RATE)) {
                reason = OUT_OF_RANGE;
            } else if (told + size >= MOST_SHOWERS || size >= MOST_SHOWERS) {
                reason = TOO_MANY;
            } else {
                begins[size] = begin;
                lengths[size] = length;
                rates[size] = rate;
                size++;
            }
        }

        /** Reads a number and the sign behind it, unless a fault has come before. */
        private int readNumber(Text text, char sign) {
            if (reason != NO_FAULT) {
                return 0;
            }
            int number = 0;
            int digits = 0;
            for (; digits < MOST_DIGITS && text.hasDigitAt(next); digits++) {
                number = 10 * number + (text.characterAt(next) - '0');
                next++;
            }
            if (digits == 0) {
                reason = NUMBER_MISSING;
            } else if (text.characterAt(next) != sign) {
                reason = SIGN_MISPLACED;
            }
            next++;
            return number;
        }
    }
}
