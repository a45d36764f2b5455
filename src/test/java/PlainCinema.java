import java.util.ArrayDeque;
import java.util.ArrayList;
import java.util.BitSet;
import java.util.Comparator;
import java.util.Deque;
import java.util.HashSet;
import java.util.List;
import java.util.NoSuchElementException;
import java.util.Set;
import java.util.regex.Matcher;
import java.util.regex.Pattern;

/**
 * The document once more, told as plainly as can be: rules minute by minute, all reels and all places compared, deep
 * copies for undo. It shares no thought with the class that it is compared with.
 */
final class PlainCinema {
    private static final class Hall {
        int seats;
        int cleaning;
        int exit;
        int closed = -1;
    }

    private static final class Film {
        int length;
        int rating;
        int genres;
        int prints;
        int release;
        int first = 60;
        int step = 10;
        int least = 20;
    }

    private static final class Trailer {
        int film;
        int length;
        int rating;
        int genres;
    }

    private static final class Show {
        int hall;
        int film;
        int day;
        int start;
        int minutes;
        int reel;
        int reelMinutes;
        int price;
        int tickets;
        boolean isCancelled;
        boolean isOut;

        int end() {
            return start + minutes;
        }
    }

    private static final class World {
        final List<Hall> halls = new ArrayList<>();
        final List<Film> films = new ArrayList<>();
        final List<Trailer> trailers = new ArrayList<>();
        final List<Show> shows = new ArrayList<>();
        List<int[]> lines = new ArrayList<>();
        final int[] settings = {10, 2, 15, 10, 60, 10};
        final int[] limits = {3, 3, 3, 3, 3, 3, 3, 3, 3, 3, 3, 3, 3, 3, 3, 3};
        int today;
        int givenBack;

        World copy() {
            World copy = new World();
            for (Hall hall : halls) {
                Hall other = new Hall();
                other.seats = hall.seats;
                other.cleaning = hall.cleaning;
                other.exit = hall.exit;
                other.closed = hall.closed;
                copy.halls.add(other);
            }
            for (Film film : films) {
                Film other = new Film();
                other.length = film.length;
                other.rating = film.rating;
                other.genres = film.genres;
                other.prints = film.prints;
                other.release = film.release;
                other.first = film.first;
                other.step = film.step;
                other.least = film.least;
                copy.films.add(other);
            }
            copy.trailers.addAll(trailers);
            for (Show show : shows) {
                Show other = new Show();
                other.hall = show.hall;
                other.film = show.film;
                other.day = show.day;
                other.start = show.start;
                other.minutes = show.minutes;
                other.reel = show.reel;
                other.reelMinutes = show.reelMinutes;
                other.price = show.price;
                other.tickets = show.tickets;
                other.isCancelled = show.isCancelled;
                copy.shows.add(other);
            }
            copy.lines = new ArrayList<>(lines);
            System.arraycopy(settings, 0, copy.settings, 0, settings.length);
            System.arraycopy(limits, 0, copy.limits, 0, limits.length);
            copy.today = today;
            copy.givenBack = givenBack;
            return copy;
        }
    }

    private static final int[] LOWEST = {0, 1, 0, 0, 0, 1};
    private static final int[] HIGHEST = {30, 3, 60, 20, 120, 99};
    private static final String NUMBER = " (0|[1-9][0-9]{0,2})";
    private static final String COMMAND = "(plan" + NUMBER + NUMBER + NUMBER + NUMBER + "|sell" + NUMBER + NUMBER
            + "|drop" + NUMBER + "|fail" + NUMBER + NUMBER + "|days" + NUMBER + ")";
    private static final Pattern TEXT = Pattern.compile(COMMAND + "(;" + COMMAND + ")*");

    private World world = new World();
    private World saved = null;
    private Deque<World> past = new ArrayDeque<>();
    private int[] refusal = null;
    private int errorPosition = -1;
    private String input = "";
    private String written = "";

    private void change() {
        past.addLast(world.copy());
        if (past.size() > 8) {
            past.removeFirst();
        }
    }

    private static void index(boolean isThere) {
        if (!isThere) {
            throw new IndexOutOfBoundsException();
        }
    }

    private static void argument(boolean isRight) {
        if (!isRight) {
            throw new IllegalArgumentException();
        }
    }

    private static void state(boolean isRight) {
        if (!isRight) {
            throw new IllegalStateException();
        }
    }

    private static boolean in(int number, int lowest, int highest) {
        return lowest <= number && number <= highest;
    }

    private boolean isHall(int hall) {
        return in(hall, 0, world.halls.size() - 1);
    }

    private boolean isFilm(int film) {
        return in(film, 0, world.films.size() - 1);
    }

    private boolean isShow(int show) {
        return in(show, 0, world.shows.size() - 1);
    }

    private void refuse(int reason, int detail) {
        refusal = new int[] {reason, detail};
        throw new UnsupportedOperationException();
    }

    public int addHall(int seats, int cleaning, int exit) {
        argument(in(seats, 1, 400) && in(cleaning, 0, 40) && in(exit, 0, 2));
        state(world.halls.size() < 6);
        change();
        Hall hall = new Hall();
        hall.seats = seats;
        hall.cleaning = cleaning;
        hall.exit = exit;
        world.halls.add(hall);
        return world.halls.size() - 1;
    }

    public int addFilm(int length, int rating, int genres, int prints, int release) {
        argument(in(length, 30, 240) && in(rating, 0, 3) && in(genres, 1, 63) && in(prints, 1, 3)
                && in(release, 0, 59));
        state(world.films.size() < 8);
        change();
        Film film = new Film();
        film.length = length;
        film.rating = rating;
        film.genres = genres;
        film.prints = prints;
        film.release = release;
        world.films.add(film);
        return world.films.size() - 1;
    }

    public int setShares(int film, int first, int step, int least) {
        index(isFilm(film));
        argument(in(first, 0, 100) && in(step, 0, 50) && in(least, 0, first));
        change();
        Film changed = world.films.get(film);
        int previous = changed.first;
        changed.first = first;
        changed.step = step;
        changed.least = least;
        return previous;
    }

    public int addTrailer(int film, int length, int rating, int genres) {
        index(isFilm(film));
        argument(in(length, 1, 6) && in(rating, 0, 3) && in(genres, 1, 63));
        state(world.trailers.size() < 10);
        change();
        Trailer trailer = new Trailer();
        trailer.film = film;
        trailer.length = length;
        trailer.rating = rating;
        trailer.genres = genres;
        world.trailers.add(trailer);
        return world.trailers.size() - 1;
    }

    public int set(int setting, int value) {
        index(in(setting, 0, 5));
        argument(in(value, LOWEST[setting], HIGHEST[setting]));
        change();
        int previous = world.settings[setting];
        world.settings[setting] = value;
        return previous;
    }

    public int setLimit(int hour, int rating) {
        index(in(hour, 0, 15));
        argument(in(rating, 0, 3));
        change();
        int previous = world.limits[hour];
        world.limits[hour] = rating;
        return previous;
    }

    public int setting(int number) {
        index(in(number, 0, 5) || in(number, 10, 25));
        return number < 10 ? world.settings[number] : world.limits[number - 10];
    }

    public int hall(int hall, int what) {
        index(isHall(hall));
        argument(in(what, 0, 6));
        Hall asked = world.halls.get(hall);
        if (what < 4) {
            return new int[] {asked.seats, asked.cleaning, asked.exit, asked.closed}[what];
        }
        return world.shows.stream().filter(show -> show.hall == hall && !show.isCancelled)
                .mapToInt(show -> new int[] {1, show.minutes, show.tickets}[what - 4]).sum();
    }

    public int film(int film, int what) {
        index(isFilm(film));
        argument(in(what, 0, 11));
        Film asked = world.films.get(film);
        if (what < 5) {
            return new int[] {asked.length, asked.rating, asked.genres, asked.prints, asked.release}[what];
        }
        if (what > 8) {
            return new int[] {asked.first, asked.step, asked.least}[what - 9];
        }
        return world.shows.stream().filter(show -> show.film == film && !show.isCancelled)
                .mapToInt(show -> new int[] {1, show.tickets, receipts(show), part(show)}[what - 5]).sum();
    }

    private static int receipts(Show show) {
        return show.tickets * show.price;
    }

    private int part(Show show) {
        return receipts(show) * share(show.film, show.day) / 100;
    }

    public int share(int film, int day) {
        index(isFilm(film));
        argument(in(day, 0, 59));
        Film asked = world.films.get(film);
        if (day < asked.release) {
            throw new NoSuchElementException();
        }
        int share = asked.first;
        for (int week = asked.release + 7; week <= day; week += 7) {
            share -= asked.step;
        }
        return share < asked.least ? asked.least : share;
    }

    public int trailer(int trailer, int what) {
        index(in(trailer, 0, world.trailers.size() - 1));
        argument(in(what, 0, 3));
        Trailer asked = world.trailers.get(trailer);
        return new int[] {asked.film, asked.length, asked.rating, asked.genres}[what];
    }

    public boolean fits(int trailer, int film, int day) {
        index(in(trailer, 0, world.trailers.size() - 1) && isFilm(film));
        argument(in(day, 0, 59));
        Trailer asked = world.trailers.get(trailer);
        Film shown = world.films.get(film);
        boolean isCommon = false;
        for (int genre = 0; genre < 6; genre++) {
            isCommon |= (asked.genres & 1 << genre) != 0 && (shown.genres & 1 << genre) != 0;
        }
        return asked.film != film && world.films.get(asked.film).release > day && asked.rating <= shown.rating
                && isCommon;
    }

    private int lengthOf(List<Integer> reel) {
        return reel.stream().mapToInt(trailer -> world.trailers.get(trailer).length).sum();
    }

    private void collectReels(List<Integer> reel, int from, int film, int day, List<List<Integer>> reels) {
        if (reel.size() > 4 || lengthOf(reel) > world.settings[3]) {
            return;
        }
        reels.add(reel);
        for (int trailer = from; trailer < world.trailers.size(); trailer++) {
            if (fits(trailer, film, day)) {
                List<Integer> longer = new ArrayList<>(reel);
                longer.add(trailer);
                collectReels(longer, trailer + 1, film, day, reels);
            }
        }
    }

    private int compareReels(List<Integer> one, List<Integer> other) {
        if (lengthOf(one) != lengthOf(other)) {
            return lengthOf(other) - lengthOf(one);
        }
        if (one.size() != other.size()) {
            return one.size() - other.size();
        }
        for (int k = 0; k < one.size(); k++) {
            if (!one.get(k).equals(other.get(k))) {
                return one.get(k) - other.get(k);
            }
        }
        return 0;
    }

    public int reel(int film, int day, boolean isMinutes) {
        index(isFilm(film));
        argument(in(day, 0, 59));
        List<List<Integer>> reels = new ArrayList<>();
        collectReels(new ArrayList<>(), 0, film, day, reels);
        List<Integer> best = reels.stream().min(this::compareReels).get();
        return isMinutes ? lengthOf(best) : best.stream().mapToInt(trailer -> 1 << trailer).sum();
    }

    private static BitSet span(int from, int until) {
        BitSet minutes = new BitSet();
        minutes.set(from, until);
        return minutes;
    }

    private BitSet cleaning(int hall, int end) {
        return span(end, end + world.halls.get(hall).cleaning);
    }

    /** Returns the first broken rule with its detail, {0, -1} without one; without is the show itself or null. */
    private int[] broken(int hall, int film, int day, int start, int minutes, Show without) {
        Film shown = world.films.get(film);
        Hall place = world.halls.get(hall);
        int end = start + minutes;
        if (day < world.today) {
            return new int[] {1, world.today};
        }
        if (place.closed >= 0 && day >= place.closed) {
            return new int[] {2, hall};
        }
        if (day < shown.release) {
            return new int[] {3, shown.release};
        }
        if (shown.rating > world.limits[start / 60]) {
            return new int[] {4, world.limits[start / 60]};
        }
        if (end > 960) {
            return new int[] {5, end};
        }
        List<Show> others = new ArrayList<>();
        for (Show show : world.shows) {
            if (show != without && show.day == day && !show.isCancelled && !show.isOut) {
                others.add(show);
            }
        }
        for (Show other : others) {
            BitSet common = span(start, end + place.cleaning);
            common.and(span(other.start, other.end() + world.halls.get(other.hall).cleaning));
            if (other.hall == hall && !common.isEmpty()) {
                return new int[] {6, world.shows.indexOf(other)};
            }
        }
        int carrying = world.settings[2];
        for (int minute = start; minute < end + carrying; minute++) {
            int prints = 1;
            for (Show other : others) {
                if (other.film == film && span(other.start, other.end() + carrying).get(minute)) {
                    prints++;
                }
            }
            if (prints > shown.prints) {
                return new int[] {7, minute};
            }
        }
        for (Show other : others) {
            int apart = other.end() > end ? other.end() - end : end - other.end();
            if (world.halls.get(other.hall).exit == place.exit && apart < world.settings[0]) {
                return new int[] {8, world.shows.indexOf(other)};
            }
        }
        for (int minute = end; minute < end + place.cleaning; minute++) {
            Set<Integer> cleaned = new HashSet<>();
            cleaned.add(hall);
            for (Show other : others) {
                if (cleaning(other.hall, other.end()).get(minute)) {
                    cleaned.add(other.hall);
                }
            }
            if (cleaned.size() > world.settings[1]) {
                return new int[] {9, minute};
            }
        }
        return new int[] {0, -1};
    }

    public int plan(int hall, int film, int day, int start) {
        index(isHall(hall) && isFilm(film));
        argument(in(day, 0, 59) && in(start, 0, 959));
        int reelMinutes = reel(film, day, true);
        int minutes = reelMinutes + world.films.get(film).length;
        int[] rule = broken(hall, film, day, start, minutes, null);
        if (rule[0] != 0) {
            refuse(rule[0], rule[1]);
        }
        if (world.shows.size() == 30) {
            refuse(10, 30);
        }
        change();
        Show show = new Show();
        show.hall = hall;
        show.film = film;
        show.day = day;
        show.start = start;
        show.minutes = minutes;
        show.reel = reel(film, day, false);
        show.reelMinutes = reelMinutes;
        show.price = world.settings[5];
        world.shows.add(show);
        return world.shows.size() - 1;
    }

    public int move(int show, int hall, int start) {
        index(isShow(show) && isHall(hall));
        argument(in(start, 0, 959));
        Show moved = world.shows.get(show);
        state(!moved.isCancelled && moved.day >= world.today);
        if (world.halls.get(hall).seats < moved.tickets) {
            refuse(11, world.halls.get(hall).seats);
        }
        int[] rule = broken(hall, moved.film, moved.day, start, moved.minutes, moved);
        if (rule[0] != 0) {
            refuse(rule[0], rule[1]);
        }
        change();
        int before = moved.start;
        moved.hall = hall;
        moved.start = start;
        return before < start ? start - before : before - start;
    }

    public int cancel(int show) {
        index(isShow(show));
        Show cancelled = world.shows.get(show);
        state(!cancelled.isCancelled && cancelled.day >= world.today);
        change();
        int tickets = cancelled.tickets;
        cancelled.tickets = 0;
        cancelled.isCancelled = true;
        world.givenBack += tickets;
        return tickets;
    }

    public int sell(int show, int tickets) {
        index(isShow(show));
        argument(in(tickets, 1, 400));
        Show sold = world.shows.get(show);
        state(!sold.isCancelled && sold.day >= world.today);
        int left = world.halls.get(sold.hall).seats - sold.tickets;
        if (left < tickets) {
            refuse(12, left);
        }
        change();
        sold.tickets += tickets;
        return sold.tickets;
    }

    public int show(int show, int what) {
        index(isShow(show));
        argument(in(what, 0, 11));
        Show asked = world.shows.get(show);
        int status = asked.isCancelled ? 1 : asked.day < world.today ? 2 : 0;
        return new int[] {asked.hall, asked.film, asked.day, asked.start, asked.end(), asked.tickets, asked.reel,
            asked.price, status, receipts(asked), part(asked), asked.reelMinutes}[what];
    }

    public int why(int hall, int film, int day, int start, boolean isDetail) {
        index(isHall(hall) && isFilm(film));
        argument(in(day, 0, 59) && in(start, 0, 959));
        int minutes = reel(film, day, true) + world.films.get(film).length;
        return broken(hall, film, day, start, minutes, null)[isDetail ? 1 : 0];
    }

    public int firstStart(int hall, int film, int day, int from) {
        index(isHall(hall) && isFilm(film));
        argument(in(day, 0, 59) && in(from, 0, 959));
        int minutes = reel(film, day, true) + world.films.get(film).length;
        for (int start = from; start < 960; start++) {
            if (broken(hall, film, day, start, minutes, null)[0] == 0) {
                return start;
            }
        }
        throw new NoSuchElementException();
    }

    public int fail(int hall, int day) {
        index(isHall(hall));
        argument(in(day, 0, 59) && day >= world.today);
        state(world.halls.get(hall).closed == -1);
        change();
        world.halls.get(hall).closed = day;
        List<Show> out = new ArrayList<>();
        for (Show show : world.shows) {
            if (show.hall == hall && show.day >= day && !show.isCancelled) {
                show.isOut = true;
                out.add(show);
            }
        }
        out.sort(Comparator.<Show>comparingInt(show -> show.day).thenComparingInt(show -> show.start));
        world.lines = new ArrayList<>();
        int cancelled = 0;
        for (Show show : out) {
            int[] line = {world.shows.indexOf(show), show.start, -1, -1, show.tickets};
            int[] place = placeFor(show, hall);
            show.isOut = false;
            if (place == null) {
                show.isCancelled = true;
                world.givenBack += show.tickets;
                show.tickets = 0;
                cancelled++;
            } else {
                show.hall = place[2];
                show.start = place[1];
                line[2] = place[2];
                line[3] = place[1];
            }
            world.lines.add(line);
        }
        return cancelled;
    }

    /** Returns {difference, start, hall} of the best place, null without one. */
    private int[] placeFor(Show show, int failed) {
        int[] best = null;
        for (int hall = world.halls.size() - 1; hall >= 0; hall--) {
            for (int start = 959; start >= 0; start--) {
                int difference = Math.abs(start - show.start);
                if (hall != failed && difference <= world.settings[4] && world.halls.get(hall).seats >= show.tickets
                        && broken(hall, show.film, show.day, start, show.minutes, show)[0] == 0) {
                    int[] place = {difference, start, hall};
                    if (best == null || compare(place, best) < 0) {
                        best = place;
                    }
                }
            }
        }
        return best;
    }

    private static int compare(int[] place, int[] other) {
        for (int k = 0; k < place.length; k++) {
            if (place[k] != other[k]) {
                return place[k] < other[k] ? -1 : 1;
            }
        }
        return 0;
    }

    public int reopen(int hall) {
        index(isHall(hall));
        state(world.halls.get(hall).closed != -1);
        change();
        int closed = world.halls.get(hall).closed;
        world.halls.get(hall).closed = -1;
        return closed;
    }

    public int line(int index, int what) {
        if (!in(index, 0, world.lines.size() - 1)) {
            throw new NoSuchElementException();
        }
        argument(in(what, 0, 4));
        return world.lines.get(index)[what];
    }

    public int used(int hall, int day, int what) {
        index(isHall(hall));
        argument(in(day, 0, 59) && in(what, 0, 4));
        BitSet shown = new BitSet();
        BitSet cleaned = new BitSet();
        int first = -1;
        int greatest = -1;
        for (Show show : world.shows) {
            if (show.hall == hall && show.day == day && !show.isCancelled) {
                shown.or(span(show.start, show.end()));
                cleaned.or(cleaning(hall, show.end()));
                first = first == -1 || show.start < first ? show.start : first;
                greatest = show.end() > greatest ? show.end() : greatest;
            }
        }
        cleaned.clear(960, 2000);
        int free = 960 - shown.cardinality() - cleaned.cardinality();
        return new int[] {shown.cardinality(), cleaned.cardinality(), free, first, greatest}[what];
    }

    public int at(int day, int minute, int what) {
        argument(in(day, 0, 59) && in(minute, 0, 1200) && in(what, 0, 3));
        int running = 0;
        int seats = 0;
        int lowest = -1;
        Set<Integer> cleaned = new HashSet<>();
        for (Show show : world.shows) {
            if (show.day == day && !show.isCancelled) {
                if (span(show.start, show.end()).get(minute)) {
                    running++;
                    seats += world.halls.get(show.hall).seats;
                    lowest = lowest == -1 ? world.shows.indexOf(show) : lowest;
                }
                if (cleaning(show.hall, show.end()).get(minute)) {
                    cleaned.add(show.hall);
                }
            }
        }
        return new int[] {running, cleaned.size(), seats, lowest}[what];
    }

    public int refusal(boolean isDetail) {
        if (refusal == null) {
            throw new NoSuchElementException();
        }
        return refusal[isDetail ? 1 : 0];
    }

    public int advance(int days) {
        argument(in(days, 1, 30) && world.today + days <= 59);
        change();
        world.today += days;
        return world.today;
    }

    public int account(int what) {
        argument(in(what, 0, 11));
        int cancelled = 0;
        int tickets = 0;
        int receipts = 0;
        int parts = 0;
        int minutes = 0;
        for (Show show : world.shows) {
            cancelled += show.isCancelled ? 1 : 0;
            tickets += show.tickets;
            receipts += receipts(show);
            parts += part(show);
            minutes += show.isCancelled ? 0 : show.minutes;
        }
        return new int[] {world.halls.size(), world.films.size(), world.trailers.size(), world.shows.size(),
            cancelled, tickets, receipts, parts, receipts - parts, world.givenBack, minutes, world.today}[what];
    }

    public int bestFilm() {
        if (world.films.isEmpty()) {
            throw new NoSuchElementException();
        }
        int best = world.films.size() - 1;
        for (int film = best; film >= 0; film--) {
            best = film(film, 6) >= film(best, 6) ? film : best;
        }
        return best;
    }

    public double use() {
        long tickets = 0;
        long seats = 0;
        for (Show show : world.shows) {
            if (!show.isCancelled) {
                tickets += show.tickets;
                seats += world.halls.get(show.hall).seats;
            }
        }
        if (seats == 0) {
            throw new ArithmeticException();
        }
        return (double) tickets / (double) seats;
    }

    public int write(int hall, int day) {
        index(isHall(hall));
        argument(in(day, 0, 59));
        List<Show> shows = new ArrayList<>();
        for (Show show : world.shows) {
            if (show.hall == hall && show.day == day && !show.isCancelled) {
                shows.add(show);
            }
        }
        shows.sort(Comparator.comparingInt(show -> show.start));
        List<String> parts = new ArrayList<>();
        for (Show show : shows) {
            parts.add(show.start + "-" + show.end() + " f" + show.film + " " + show.tickets + "/"
                    + world.halls.get(hall).seats);
        }
        int closed = world.halls.get(hall).closed;
        written = (closed != -1 && closed <= day ? "closed: " : "")
                + (parts.isEmpty() ? "none" : String.join(", ", parts));
        return written.length();
    }

    public char written(int index) {
        index(in(index, 0, written.length() - 1));
        return written.charAt(index);
    }

    public int append(char character) {
        argument(in(character, 32, 126));
        state(input.length() < 60);
        input += character;
        return input.length();
    }

    private static boolean canStart(String text) {
        Matcher matcher = TEXT.matcher(text);
        return matcher.matches() || matcher.hitEnd();
    }

    private void carryOut(String command) {
        String[] words = command.split(" ");
        int[] numbers = new int[words.length];
        for (int k = 1; k < words.length; k++) {
            numbers[k] = Integer.parseInt(words[k]);
        }
        switch (words[0]) {
            case "plan":
                plan(numbers[1], numbers[2], numbers[3], numbers[4]);
                break;
            case "sell":
                sell(numbers[1], numbers[2]);
                break;
            case "drop":
                cancel(numbers[1]);
                break;
            case "fail":
                fail(numbers[1], numbers[2]);
                break;
            default:
                advance(numbers[1]);
                break;
        }
    }

    public int perform() {
        String text = input;
        input = "";
        if (!TEXT.matcher(text).matches()) {
            errorPosition = text.length();
            for (int k = text.length() - 1; k >= 0; k--) {
                errorPosition = canStart(text.substring(0, k + 1)) ? errorPosition : k;
            }
            throw new IllegalArgumentException();
        }
        World before = world.copy();
        Deque<World> pastBefore = new ArrayDeque<>(past);
        try {
            for (String command : text.split(";")) {
                carryOut(command);
            }
        } catch (RuntimeException e) {
            world = before;
            past = pastBefore;
            throw new UnsupportedOperationException();
        }
        World after = world;
        past = pastBefore;
        world = before;
        change();
        world = after;
        return text.split(";").length;
    }

    public int errorPosition() {
        if (errorPosition == -1) {
            throw new NoSuchElementException();
        }
        return errorPosition;
    }

    public int undo() {
        state(!past.isEmpty());
        world = past.removeLast();
        return past.size();
    }

    public int save() {
        saved = world.copy();
        return world.shows.size();
    }

    public int restore() {
        state(saved != null);
        world = saved.copy();
        past.clear();
        return world.shows.size();
    }
}
