import java.util.ArrayList;
import java.util.List;
import java.util.regex.Matcher;
import java.util.regex.Pattern;

/** The document once more, in the plainest words and without regard to speed, to compare the class with. */
final class Model {
    private static final int[][] RANGES = {{20, 500}, {0, 20}, {0, 200}, {0, 50}, {0, 50}, {10, 1000}, {1, 2000}, {1, 1000}};
    private static final Pattern SHOWER = Pattern.compile("(\\d{1,4})\\+(\\d{1,4})\\*(\\d{1,4});");
    private static final Pattern NUMBER_MISSING = Pattern.compile("(\\d{1,4}\\+(\\d{1,4}\\*)?)?(?!\\d)");

    /** A state; rows in it are never changed, only replaced. */
    private static final class State {
        int tick, film, content, tipLeft, reserve = 500, counted;
        int[] settings = {100, 2, 10, 1, 0, 360, 500, 60};
        int[] accounts = new int[5];
        List<int[]> showers = new ArrayList<>();
        List<int[]> gears = new ArrayList<>();
        List<int[]> marks = new ArrayList<>();

        State copy() {
            State copy = new State();
            copy.tick = tick;
            copy.film = film;
            copy.content = content;
            copy.tipLeft = tipLeft;
            copy.reserve = reserve;
            copy.counted = counted;
            copy.settings = settings.clone();
            copy.accounts = accounts.clone();
            copy.showers = new ArrayList<>(showers);
            copy.gears = new ArrayList<>(gears);
            copy.marks = new ArrayList<>(marks);
            return copy;
        }

        int rain() {
            return showers.stream().filter(s -> s[0] <= tick && tick <= s[0] + s[1] - 1).mapToInt(s -> s[2]).sum();
        }

        int place() {
            long first = counted;
            long second = 1;
            for (int[] pair : gears) {
                first *= pair[0];
                second *= pair[1];
            }
            return (int) (first / second % settings[5]);
        }

        int add(int begin, int length, int rate) {
            int place = (int) showers.stream().filter(s -> s[0] <= begin).count();
            showers.add(place, new int[] {begin, length, rate});
            return place;
        }

        int pass() {
            int tips = 0;
            int rain = rain();
            accounts[0] += rain;
            int left = rain;
            while (left > 0 && film < settings[2]) {
                left--;
                film++;
            }
            boolean tipping = tipLeft > 0;
            if (tipping) {
                accounts[3] += left;
            } else {
                content += left;
            }
            for (int i = 0; rain == 0 && i < settings[3] && film > 0; i++) {
                film--;
                accounts[4]++;
            }
            for (int i = 0; rain == 0 && !tipping && i < settings[4] && content > 0; i++) {
                content--;
                accounts[4]++;
            }
            if (tipping) {
                tipLeft--;
            } else if (content >= settings[0]) {
                tips = 1;
                int over = content - settings[0];
                accounts[1] += settings[0];
                accounts[2] += over;
                content = 0;
                tipLeft = settings[1];
                marks.add(new int[] {tick, place(), over});
                if (marks.size() == 61) {
                    marks.remove(0);
                }
            }
            if (reserve > 0) {
                reserve--;
                counted++;
            }
            tick++;
            showers.removeIf(s -> s[0] + s[1] == tick);
            return tips;
        }

        int pass(int ticks) {
            int tips = 0;
            for (int i = 0; i < ticks; i++) {
                tips += pass();
            }
            return tips;
        }

        /** Each storm as the numbers of its marks. */
        List<List<Integer>> storms(int gap) {
            List<List<Integer>> storms = new ArrayList<>();
            for (int i = 0; i < marks.size(); i++) {
                if (i == 0 || marks.get(i)[0] - marks.get(i - 1)[0] > gap) {
                    storms.add(new ArrayList<>());
                }
                storms.get(storms.size() - 1).add(i);
            }
            return storms;
        }

        int storm(List<Integer> storm, int what) {
            int first = storm.get(0);
            int last = storm.get(storm.size() - 1);
            int loss = 0;
            int peak = 0;
            for (int i : storm) {
                int begin = marks.get(i)[0];
                peak = Math.max(peak, (int) storm.stream().map(m -> marks.get(m)[0])
                        .filter(t -> t >= begin && t <= begin + 29).count());
                loss += i == first ? 0 : settings[0] * settings[1] / (begin - marks.get(i - 1)[0]);
            }
            return new int[] {first, storm.size(), marks.get(last)[0] - marks.get(first)[0], storm.size() * settings[0],
                loss, peak}[what];
        }
    }

    private State now = new State();
    private final List<State> history = new ArrayList<>();
    private String text = "";

    private void record() {
        history.add(now.copy());
        if (history.size() > 5) {
            history.remove(0);
        }
    }

    private static boolean in(int value, int least, int greatest) {
        return least <= value && value <= greatest;
    }

    int addShower(int begin, int length, int rate) {
        if (!in(begin, now.tick, 5000) || !in(length, 1, 500) || !in(rate, 1, 200)) {
            return -1;
        }
        if (now.showers.size() == 12) {
            return -3;
        }
        record();
        return now.add(begin, length, rate);
    }

    int cancel(int shower) {
        if (!in(shower, 0, now.showers.size() - 1)) {
            return -1;
        }
        if (now.showers.get(shower)[0] < now.tick) {
            return -2;
        }
        record();
        now.showers.remove(shower);
        return now.showers.size();
    }

    int shower(int shower, int what) {
        if (!in(shower, 0, now.showers.size() - 1) || !in(what, 0, 3)) {
            return -1;
        }
        int[] told = now.showers.get(shower);
        int toCome = 0;
        for (int tick = told[0]; tick < told[0] + told[1]; tick++) {
            toCome += tick >= now.tick ? 1 : 0;
        }
        return what == 3 ? toCome : told[what];
    }

    int run(int ticks) {
        if (!in(ticks, 1, 1000)) {
            return -1;
        }
        if (now.tick + ticks > 5000) {
            return -3;
        }
        record();
        return now.pass(ticks);
    }

    int undo() {
        if (history.isEmpty()) {
            return -2;
        }
        now = history.remove(history.size() - 1);
        return history.size();
    }

    int set(int what, int value) {
        if (!in(what, 0, 7) || !in(value, RANGES[what][0], RANGES[what][1])) {
            return -1;
        }
        record();
        int previous = now.settings[what];
        now.settings[what] = value;
        return previous;
    }

    int wind() {
        record();
        int previous = now.reserve;
        now.reserve = now.settings[6];
        return previous;
    }

    int addGears(int first, int second) {
        if (!in(first, 8, 120) || !in(second, 8, 120)) {
            return -1;
        }
        if (now.gears.size() == 3) {
            return -3;
        }
        record();
        now.gears.add(new int[] {first, second});
        return now.gears.size();
    }

    int removeGears(int pair) {
        if (!in(pair, 0, now.gears.size() - 1)) {
            return -1;
        }
        record();
        now.gears.remove(pair);
        return now.gears.size();
    }

    int gear(int pair, int wheel) {
        return in(pair, 0, now.gears.size() - 1) && in(wheel, 0, 1) ? now.gears.get(pair)[wheel] : -1;
    }

    int count(int what) {
        if (in(what, 20, 27)) {
            return now.settings[what - 20];
        }
        int[] numbers = {now.tick, now.showers.size(), now.marks.size(), now.storms(now.settings[7]).size(), now.film,
            now.content, now.tipLeft, now.reserve, now.counted, now.place(), now.gears.size(), history.size(),
            text.length(), now.rain()};
        return in(what, 0, 13) ? numbers[what] : -1;
    }

    int account(int what) {
        return in(what, 0, 4) ? now.accounts[what] : -1;
    }

    int mark(int mark, int what) {
        return in(mark, 0, now.marks.size() - 1) && in(what, 0, 2) ? now.marks.get(mark)[what] : -1;
    }

    int storm(int storm, int what) {
        List<List<Integer>> storms = now.storms(now.settings[7]);
        return in(storm, 0, storms.size() - 1) && in(what, 0, 5) ? now.storm(storms.get(storm), what) : -1;
    }

    int greatestStorm() {
        List<Integer> sums = new ArrayList<>();
        now.storms(now.settings[7]).forEach(s -> sums.add(now.storm(s, 3) + now.storm(s, 4)));
        return sums.isEmpty() ? -4 : sums.indexOf(sums.stream().max(Integer::compare).get());
    }

    int gapForOne() {
        for (int gap = 1; gap <= 1000; gap++) {
            if (now.storms(gap).size() == 1) {
                return gap;
            }
        }
        return -4;
    }

    int ifRun(int ticks, int what) {
        if (!in(ticks, 1, 1000) || !in(what, 0, 7)) {
            return -1;
        }
        if (now.tick + ticks > 5000) {
            return -3;
        }
        State then = now.copy();
        int tips = then.pass(ticks);
        int[] grown = new int[5];
        for (int i = 0; i < 5; i++) {
            grown[i] = then.accounts[i] - now.accounts[i];
        }
        return new int[] {tips, grown[1], grown[2], grown[3], grown[4], then.film, then.content, then.place()}[what];
    }

    int capacityFor(int ticks, int most) {
        if (!in(ticks, 1, 1000) || !in(most, 0, 100000)) {
            return -1;
        }
        if (now.tick + ticks > 5000) {
            return -3;
        }
        for (int capacity = 20; capacity <= 500; capacity++) {
            State then = now.copy();
            then.settings[0] = capacity;
            then.pass(ticks);
            if (then.accounts[2] + then.accounts[3] - now.accounts[2] - now.accounts[3] <= most) {
                return capacity;
            }
        }
        return -4;
    }

    int untilStop() {
        State then = now.copy();
        int ticks = 0;
        for (; then.reserve > 0; ticks++) {
            then.pass();
        }
        return ticks;
    }

    int gearsFor(int ticks) {
        if (!in(ticks, 1, 100000)) {
            return -1;
        }
        for (int first = 8; first <= 120; first++) {
            for (int second = 8; second <= 120; second++) {
                if (now.settings[5] * second == ticks * first) {
                    return 1000 * first + second;
                }
            }
        }
        return -4;
    }

    int type(int character) {
        if (!in(character, 32, 126)) {
            return -1;
        }
        if (text.length() == 100) {
            return -3;
        }
        text += (char) character;
        return text.length();
    }

    int clearText() {
        int length = text.length();
        text = "";
        return length;
    }

    /** The showers of the text are added to the list; returns the position and the reason, or null. */
    private int[] read(List<int[]> showers) {
        int position = 0;
        while (position < text.length()) {
            Matcher shower = SHOWER.matcher(text).region(position, text.length());
            if (!shower.lookingAt()) {
                Matcher missing = NUMBER_MISSING.matcher(text).region(position, text.length());
                return new int[] {position, missing.lookingAt() ? 1 : 2};
            }
            int[] read = {now.tick + Integer.parseInt(shower.group(1)), Integer.parseInt(shower.group(2)),
                Integer.parseInt(shower.group(3))};
            if (read[0] > 5000 || !in(read[1], 1, 500) || !in(read[2], 1, 200)) {
                return new int[] {position, 3};
            }
            if (now.showers.size() + showers.size() == 12) {
                return new int[] {position, 4};
            }
            showers.add(read);
            position = shower.end();
        }
        return null;
    }

    int fault(int what) {
        if (!in(what, 0, 1)) {
            return -1;
        }
        int[] fault = read(new ArrayList<>());
        return fault == null ? -4 : fault[what];
    }

    int lay() {
        List<int[]> showers = new ArrayList<>();
        if (read(showers) != null) {
            return -2;
        }
        record();
        showers.forEach(s -> now.add(s[0], s[1], s[2]));
        return showers.size();
    }
}
