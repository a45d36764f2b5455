import java.util.NoSuchElementException;

/**
 * The programme of a cinema: films with prints and shares by weeks, trailers that make the best reel, halls with
 * cleaning by crews and exits that may not meet, ratings by hours, shows that are planned, moved, sold and
 * cancelled, halls that fail and whose shows move, reasons with details, receipts, a written programme, texts of
 * commands, undo, and saving.
 *
 * <p>The class is not thread-safe.
 */
public final class CinemaProgramme {
    private static final int LAST_DAY = 59;
    private static final int MOST_DAYS_PASSED = 30;
    private static final int WEEK_DAYS = 7;
    private static final int DAY_MINUTES = 960;
    private static final int LAST_MINUTE_LOOKED_AT = 1200;
    private static final int HOUR_MINUTES = 60;
    private static final int HOURS = 16;
    private static final int PERCENT = 100;

    private static final int MOST_HALLS = 6;
    private static final int MOST_FILMS = 8;
    private static final int MOST_TRAILERS = 10;
    private static final int MOST_SHOWS = 30;
    private static final int MOST_CHANGES = 8;
    private static final int MOST_SIGNS = 60;
    /** No command is shorter than "drop 0", so a full input with its semicolons holds eight of them. */
    private static final int MOST_COMMANDS = 8;
    private static final int REEL_TRAILERS = 4;

    private static final int HIGHEST_RATING = 3;
    private static final int ALL_GENRES = 63;
    private static final int MOST_SEATS = 400;
    private static final int MOST_CLEANING = 40;
    private static final int HIGHEST_EXIT = 2;
    private static final int SHORTEST_FILM = 30;
    private static final int LONGEST_FILM = 240;
    private static final int MOST_PRINTS = 3;
    private static final int LONGEST_TRAILER = 6;
    private static final int HIGHEST_SHARE = 100;
    private static final int HIGHEST_STEP = 50;
    private static final int FIRST_SHARE = 60;
    private static final int FIRST_STEP = 10;
    private static final int FIRST_LEAST = 20;

    private static final int GAP = 0;
    private static final int CREWS = 1;
    private static final int CARRYING = 2;
    private static final int BLOCK = 3;
    private static final int SHIFT = 4;
    private static final int PRICE = 5;
    /** The limit of hour h has the number LIMITS + h, among the settings too. */
    private static final int LIMITS = 10;
    private static final int[] LOWEST_SETTINGS = {0, 1, 0, 0, 0, 1};
    private static final int[] HIGHEST_SETTINGS = {30, 3, 60, 20, 120, 99};
    private static final int[] FIRST_SETTINGS = {10, 2, 15, 10, 60, 10};

    // The columns of halls, films, trailers, shows and lines bear the numbers that the face gives their parts.
    private static final int HALL_SEATS = 0;
    private static final int HALL_CLEANING = 1;
    private static final int HALL_EXIT = 2;
    private static final int HALL_CLOSED = 3;
    private static final int HALL_COLUMNS = 4;

    private static final int FILM_LENGTH = 0;
    private static final int FILM_RATING = 1;
    private static final int FILM_GENRES = 2;
    private static final int FILM_PRINTS = 3;
    private static final int FILM_RELEASE = 4;
    private static final int FILM_FIRST = 9;
    private static final int FILM_STEP = 10;
    private static final int FILM_LEAST = 11;
    private static final int FILM_COLUMNS = 12;

    private static final int TRAILER_FILM = 0;
    private static final int TRAILER_LENGTH = 1;
    private static final int TRAILER_RATING = 2;
    private static final int TRAILER_GENRES = 3;
    private static final int TRAILER_COLUMNS = 4;

    private static final int SHOW_HALL = 0;
    private static final int SHOW_FILM = 1;
    private static final int SHOW_DAY = 2;
    private static final int SHOW_START = 3;
    private static final int SHOW_END = 4;
    private static final int SHOW_TICKETS = 5;
    private static final int SHOW_REEL = 6;
    private static final int SHOW_PRICE = 7;
    private static final int SHOW_CANCELLED = 8;
    private static final int SHOW_REEL_MINUTES = 11;
    private static final int SHOW_COLUMNS = 12;

    private static final int LINE_SHOW = 0;
    private static final int LINE_START_BEFORE = 1;
    private static final int LINE_HALL = 2;
    private static final int LINE_START = 3;
    private static final int LINE_TICKETS = 4;
    private static final int LINE_COLUMNS = 5;

    private static final int COMMAND_WORD = 0;
    private static final int COMMAND_NUMBERS = 1;
    private static final int COMMAND_COLUMNS = 5;
    private static final int PLAN_COMMAND = 0;
    private static final int SELL_COMMAND = 1;
    private static final int DROP_COMMAND = 2;
    private static final int FAIL_COMMAND = 3;
    private static final int DAYS_COMMAND = 4;

    // What can be summed up over shows.
    private static final int SHOWS = 0;
    private static final int MINUTES = 1;
    private static final int TICKETS = 2;
    private static final int RECEIPTS = 3;
    private static final int PARTS = 4;
    private static final int SEATS = 5;
    /** In place of a column of shows: shows of every hall and film are summed up. */
    private static final int EVERY = -1;

    private static final int NONE = -1;
    private static final int NEW_SHOW = -1;

    private static final int FULL_PROGRAMME = 10;
    private static final int TOO_FEW_SEATS = 11;
    private static final int TOO_FEW_LEFT = 12;

    // What is wrong with a call, one number for each exception that tells it.
    private static final int NO_FAULT = 0;
    private static final int INDEX_FAULT = 1;
    private static final int ARGUMENT_FAULT = 2;
    private static final int STATE_FAULT = 3;
    private static final int REFUSED = 4;

    private final State now = new State();
    private final State saved = new State();
    private final History history = new History();
    private final Rules rules = new Rules();
    private final Reader reader = new Reader();
    private final StringBuilder input = new StringBuilder();
    private final StringBuilder programme = new StringBuilder();
    private boolean isSaved = false;
    private int reason = NONE;
    private int reasonDetail = NONE;
    private int keptErrorPosition = NONE;

    /** Creates a programme without halls, films, trailers and shows, on day 0. */
    public CinemaProgramme() {
    }

    /** Adds a hall and returns its number. */
    public int addHall(int seats, int cleaning, int exit) throws IllegalArgumentException, IllegalStateException {
        boolean isRight = isWithin(seats, 1, MOST_SEATS) && isWithin(cleaning, 0, MOST_CLEANING)
                && isWithin(exit, 0, HIGHEST_EXIT);
        if (!isRight) {
            throw new IllegalArgumentException("an argument is out of range");
        }
        if (now.halls.size() >= MOST_HALLS) {
            throw new IllegalStateException("there are 6 halls");
        }
        history.keep(now);
        int hall = now.halls.addRow();
        now.halls.put(hall, HALL_SEATS, seats);
        now.halls.put(hall, HALL_CLEANING, cleaning);
        now.halls.put(hall, HALL_EXIT, exit);
        now.halls.put(hall, HALL_CLOSED, NONE);
        return hall;
    }

    /** Adds a film and returns its number. */
    public int addFilm(int length, int rating, int genres, int prints, int release)
            throws IllegalArgumentException, IllegalStateException {
        boolean isRight = isWithin(length, SHORTEST_FILM, LONGEST_FILM) && isRating(rating) && isGenres(genres)
                && isWithin(prints, 1, MOST_PRINTS) && isDay(release);
        if (!isRight) {
            throw new IllegalArgumentException("an argument is out of range");
        }
        if (now.films.size() >= MOST_FILMS) {
            throw new IllegalStateException("there are 8 films");
        }
        history.keep(now);
        int film = now.films.addRow();
        now.films.put(film, FILM_LENGTH, length);
        now.films.put(film, FILM_RATING, rating);
        now.films.put(film, FILM_GENRES, genres);
        now.films.put(film, FILM_PRINTS, prints);
        now.films.put(film, FILM_RELEASE, release);
        now.films.put(film, FILM_FIRST, FIRST_SHARE);
        now.films.put(film, FILM_STEP, FIRST_STEP);
        now.films.put(film, FILM_LEAST, FIRST_LEAST);
        return film;
    }

    /** Sets the shares of a film and returns the previous first share. */
    public int setShares(int film, int first, int step, int least)
            throws IndexOutOfBoundsException, IllegalArgumentException {
        if (!now.films.isRow(film)) {
            throw new IndexOutOfBoundsException("there is no such film");
        }
        if (!isWithin(first, 0, HIGHEST_SHARE) || !isWithin(step, 0, HIGHEST_STEP) || !isWithin(least, 0, first)) {
            throw new IllegalArgumentException("a number is out of range");
        }
        history.keep(now);
        int previous = now.films.get(film, FILM_FIRST);
        now.films.put(film, FILM_FIRST, first);
        now.films.put(film, FILM_STEP, step);
        now.films.put(film, FILM_LEAST, least);
        return previous;
    }

    /** Adds a trailer for a film and returns its number. */
    public int addTrailer(int film, int length, int rating, int genres)
            throws IndexOutOfBoundsException, IllegalArgumentException, IllegalStateException {
        if (!now.films.isRow(film)) {
            throw new IndexOutOfBoundsException("there is no such film");
        }
        if (!isWithin(length, 1, LONGEST_TRAILER) || !isRating(rating) || !isGenres(genres)) {
            throw new IllegalArgumentException("a number is out of range");
        }
        if (now.trailers.size() >= MOST_TRAILERS) {
            throw new IllegalStateException("there are 10 trailers");
        }
        history.keep(now);
        int trailer = now.trailers.addRow();
        now.trailers.put(trailer, TRAILER_FILM, film);
        now.trailers.put(trailer, TRAILER_LENGTH, length);
        now.trailers.put(trailer, TRAILER_RATING, rating);
        now.trailers.put(trailer, TRAILER_GENRES, genres);
        return trailer;
    }

    /** Changes a setting and returns the previous value. */
    public int set(int setting, int value) throws IndexOutOfBoundsException, IllegalArgumentException {
        if (setting < 0 || setting >= LOWEST_SETTINGS.length || setting >= HIGHEST_SETTINGS.length) {
            throw new IndexOutOfBoundsException("there is no such setting");
        }
        if (!isWithin(value, LOWEST_SETTINGS[setting], HIGHEST_SETTINGS[setting])) {
            throw new IllegalArgumentException("the value is out of range");
        }
        history.keep(now);
        return now.exchangeSetting(setting, value);
    }

    /** Changes the limit of an hour and returns the previous limit. Shows that have been planned stay. */
    public int setLimit(int hour, int rating) throws IndexOutOfBoundsException, IllegalArgumentException {
        if (!isWithin(hour, 0, HOURS - 1)) {
            throw new IndexOutOfBoundsException("there is no such hour");
        }
        if (!isRating(rating)) {
            throw new IllegalArgumentException("the rating is out of range");
        }
        history.keep(now);
        return now.exchangeSetting(LIMITS + hour, rating);
    }

    /** Returns a setting (0 to 5) or the limit of hour h (10 + h). */
    public int setting(int number) throws IndexOutOfBoundsException {
        if (!isWithin(number, GAP, PRICE) && !isWithin(number, LIMITS, LIMITS + HOURS - 1)) {
            throw new IndexOutOfBoundsException("there is no such number");
        }
        return now.settingOf(number);
    }

    /** Returns a number of a hall. */
    public int hall(int hall, int what) throws IndexOutOfBoundsException, IllegalArgumentException {
        if (!now.halls.isRow(hall)) {
            throw new IndexOutOfBoundsException("there is no such hall");
        }
        if (!isWithin(what, 0, 6)) {
            throw new IllegalArgumentException("what is not from 0 to 6");
        }
        switch (what) {
            case 4:
                return now.total(SHOWS, SHOW_HALL, hall);
            case 5:
                return now.total(MINUTES, SHOW_HALL, hall);
            case 6:
                return now.total(TICKETS, SHOW_HALL, hall);
            default:
                return now.halls.get(hall, what);
        }
    }

    /** Returns a number of a film. */
    public int film(int film, int what) throws IndexOutOfBoundsException, IllegalArgumentException {
        if (!now.films.isRow(film)) {
            throw new IndexOutOfBoundsException("there is no such film");
        }
        if (!isWithin(what, 0, 11)) {
            throw new IllegalArgumentException("what is not from 0 to 11");
        }
        switch (what) {
            case 5:
                return now.total(SHOWS, SHOW_FILM, film);
            case 6:
                return now.total(TICKETS, SHOW_FILM, film);
            case 7:
                return now.total(RECEIPTS, SHOW_FILM, film);
            case 8:
                return now.total(PARTS, SHOW_FILM, film);
            default:
                return now.films.get(film, what);
        }
    }

    /** Returns the share of a film on a day. */
    public int share(int film, int day)
            throws IndexOutOfBoundsException, IllegalArgumentException, NoSuchElementException {
        if (!now.films.isRow(film)) {
            throw new IndexOutOfBoundsException("there is no such film");
        }
        if (!isDay(day)) {
            throw new IllegalArgumentException("there is no such day");
        }
        if (day < now.films.get(film, FILM_RELEASE)) {
            throw new NoSuchElementException("the day is before the release day");
        }
        return now.shareOn(film, day);
    }

    /** Returns a number of a trailer. */
    public int trailer(int trailer, int what) throws IndexOutOfBoundsException, IllegalArgumentException {
        if (!now.trailers.isRow(trailer)) {
            throw new IndexOutOfBoundsException("there is no such trailer");
        }
        if (!isWithin(what, 0, TRAILER_COLUMNS - 1)) {
            throw new IllegalArgumentException("what is not from 0 to 3");
        }
        return now.trailers.get(trailer, what);
    }

    /** Returns whether a trailer fits a show of a film on a day. */
    public boolean fits(int trailer, int film, int day) throws IndexOutOfBoundsException, IllegalArgumentException {
        if (!now.trailers.isRow(trailer) || !now.films.isRow(film)) {
            throw new IndexOutOfBoundsException("there is no such trailer or film");
        }
        if (!isDay(day)) {
            throw new IllegalArgumentException("there is no such day");
        }
        return now.isFitting(trailer, film, day);
    }

    /** Returns the minutes or the trailers of the best reel for a show of a film on a day. */
    public int reel(int film, int day, boolean isMinutes) throws IndexOutOfBoundsException, IllegalArgumentException {
        if (!now.films.isRow(film)) {
            throw new IndexOutOfBoundsException("there is no such film");
        }
        if (!isDay(day)) {
            throw new IllegalArgumentException("there is no such day");
        }
        int reel = now.bestReel(film, day);
        return isMinutes ? now.reelMinutes(reel) : reel;
    }

    /** Plans a show and returns its number. */
    public int plan(int hall, int film, int day, int start)
            throws IndexOutOfBoundsException, IllegalArgumentException, UnsupportedOperationException {
        int fault = faultOfPlan(hall, film, day, start);
        if (fault == INDEX_FAULT) {
            throw new IndexOutOfBoundsException("there is no such hall or film");
        }
        if (fault == ARGUMENT_FAULT) {
            throw new IllegalArgumentException("there is no such day or minute");
        }
        if (fault == REFUSED) {
            throw new UnsupportedOperationException("the show is refused");
        }
        history.keep(now);
        return now.addShow(hall, film, day, start);
    }

    /** Moves a show on its day and returns the minutes by which its start differs from the one before. */
    public int move(int show, int hall, int start) throws IndexOutOfBoundsException, IllegalArgumentException,
            IllegalStateException, UnsupportedOperationException {
        if (!now.shows.isRow(show) || !now.halls.isRow(hall)) {
            throw new IndexOutOfBoundsException("there is no such show or hall");
        }
        if (!isMinute(start)) {
            throw new IllegalArgumentException("there is no such minute");
        }
        if (!now.isOpen(show)) {
            throw new IllegalStateException("the show is cancelled or over");
        }
        if (isMoveRefused(show, hall, start)) {
            throw new UnsupportedOperationException("the move is refused");
        }
        history.keep(now);
        int before = now.shows.get(show, SHOW_START);
        now.putShow(show, hall, start);
        return Math.abs(start - before);
    }

    /** Cancels a show and returns the tickets that are given back. */
    public int cancel(int show) throws IndexOutOfBoundsException, IllegalStateException {
        int fault = faultOfCancel(show);
        if (fault == INDEX_FAULT) {
            throw new IndexOutOfBoundsException("there is no such show");
        }
        if (fault == STATE_FAULT) {
            throw new IllegalStateException("the show is cancelled or over");
        }
        history.keep(now);
        return now.dropShow(show);
    }

    /** Sells tickets for a show and returns its tickets then. */
    public int sell(int show, int tickets) throws IndexOutOfBoundsException, IllegalArgumentException,
            IllegalStateException, UnsupportedOperationException {
        int fault = faultOfSell(show, tickets);
        if (fault == INDEX_FAULT) {
            throw new IndexOutOfBoundsException("there is no such show");
        }
        if (fault == ARGUMENT_FAULT) {
            throw new IllegalArgumentException("tickets is out of range");
        }
        if (fault == STATE_FAULT) {
            throw new IllegalStateException("the show is cancelled or over");
        }
        if (fault == REFUSED) {
            throw new UnsupportedOperationException("fewer seats are left");
        }
        history.keep(now);
        return now.addTickets(show, tickets);
    }

    /** Returns a number of a show. */
    public int show(int show, int what) throws IndexOutOfBoundsException, IllegalArgumentException {
        if (!now.shows.isRow(show)) {
            throw new IndexOutOfBoundsException("there is no such show");
        }
        if (!isWithin(what, 0, 11)) {
            throw new IllegalArgumentException("what is not from 0 to 11");
        }
        switch (what) {
            case 8:
                return now.statusOf(show);
            case 9:
                return now.receiptsOf(show);
            case 10:
                return now.partOf(show);
            default:
                return now.shows.get(show, what);
        }
    }

    /** Returns the first rule that a new show would break, or the detail of this rule. */
    public int why(int hall, int film, int day, int start, boolean isDetail)
            throws IndexOutOfBoundsException, IllegalArgumentException {
        if (!now.halls.isRow(hall) || !now.films.isRow(film)) {
            throw new IndexOutOfBoundsException("there is no such hall or film");
        }
        if (!isDay(day) || !isMinute(start)) {
            throw new IllegalArgumentException("there is no such day or minute");
        }
        rules.takeUp(now, NEW_SHOW, film, day);
        int rule = rules.firstBroken(now, hall, start, start + now.newMinutes(film, day));
        return isDetail ? rules.detail : rule;
    }

    /** Returns the first start from a minute on at which a new show would break no rule. */
    public int firstStart(int hall, int film, int day, int from)
            throws IndexOutOfBoundsException, IllegalArgumentException, NoSuchElementException {
        if (!now.halls.isRow(hall) || !now.films.isRow(film)) {
            throw new IndexOutOfBoundsException("there is no such hall or film");
        }
        if (!isDay(day) || !isMinute(from)) {
            throw new IllegalArgumentException("there is no such day or minute");
        }
        rules.takeUp(now, NEW_SHOW, film, day);
        int minutes = now.newMinutes(film, day);
        for (int start = from; start < DAY_MINUTES; start++) {
            if (rules.firstBroken(now, hall, start, start + minutes) == 0) {
                return start;
            }
        }
        throw new NoSuchElementException("there is no such start");
    }

    /** Lets a hall fail from a day on and returns the number of shows that are cancelled by it. */
    public int fail(int hall, int day)
            throws IndexOutOfBoundsException, IllegalArgumentException, IllegalStateException {
        int fault = faultOfFail(hall, day);
        if (fault == INDEX_FAULT) {
            throw new IndexOutOfBoundsException("there is no such hall");
        }
        if (fault == ARGUMENT_FAULT) {
            throw new IllegalArgumentException("there is no such day, or it is before today");
        }
        if (fault == STATE_FAULT) {
            throw new IllegalStateException("the hall is closed already");
        }
        history.keep(now);
        return closeHall(hall, day);
    }

    /** Makes a hall not closed any more and returns the day from which it was closed. */
    public int reopen(int hall) throws IndexOutOfBoundsException, IllegalStateException {
        if (!now.halls.isRow(hall)) {
            throw new IndexOutOfBoundsException("there is no such hall");
        }
        int closed = now.halls.get(hall, HALL_CLOSED);
        if (closed == NONE) {
            throw new IllegalStateException("the hall is not closed");
        }
        history.keep(now);
        now.halls.put(hall, HALL_CLOSED, NONE);
        return closed;
    }

    /** Returns a part of a line of the latest failure. */
    public int line(int index, int what) throws NoSuchElementException, IllegalArgumentException {
        if (!now.lines.isRow(index)) {
            throw new NoSuchElementException("there is no such line");
        }
        if (!isWithin(what, 0, LINE_COLUMNS - 1)) {
            throw new IllegalArgumentException("what is not from 0 to 4");
        }
        return now.lines.get(index, what);
    }

    /** Returns how a hall is used on a day. */
    public int used(int hall, int day, int what) throws IndexOutOfBoundsException, IllegalArgumentException {
        if (!now.halls.isRow(hall)) {
            throw new IndexOutOfBoundsException("there is no such hall");
        }
        if (!isDay(day) || !isWithin(what, 0, 4)) {
            throw new IllegalArgumentException("there is no such day, or what is not from 0 to 4");
        }
        int first = now.showAfter(hall, day, NONE);
        switch (what) {
            case 0:
                return now.shownMinutes(hall, day);
            case 1:
                return now.cleanedMinutes(hall, day);
            case 2:
                return DAY_MINUTES - now.shownMinutes(hall, day) - now.cleanedMinutes(hall, day);
            case 3:
                return first == NONE ? NONE : now.shows.get(first, SHOW_START);
            default:
                return now.greatestEnd(hall, day);
        }
    }

    /** Returns what happens at a minute of a day. */
    public int at(int day, int minute, int what) throws IllegalArgumentException {
        if (!isDay(day) || !isWithin(minute, 0, LAST_MINUTE_LOOKED_AT) || !isWithin(what, 0, 3)) {
            throw new IllegalArgumentException("an argument is out of range");
        }
        switch (what) {
            case 0:
                return now.running(SHOWS, day, minute);
            case 1:
                return now.cleanedHalls(day, minute);
            case 2:
                return now.running(SEATS, day, minute);
            default:
                return now.firstRunning(day, minute);
        }
    }

    /** Returns the latest reason for which a call was refused, or its detail. */
    public int refusal(boolean isDetail) throws NoSuchElementException {
        if (reason == NONE) {
            throw new NoSuchElementException("nothing was refused");
        }
        return isDetail ? reasonDetail : reason;
    }

    /** Lets days pass and returns today. */
    public int advance(int days) throws IllegalArgumentException {
        if (faultOfAdvance(days) != NO_FAULT) {
            throw new IllegalArgumentException("days is out of range, or today would be greater than 59");
        }
        history.keep(now);
        now.today += days;
        return now.today;
    }

    /** Returns an account. */
    public int account(int what) throws IllegalArgumentException {
        if (!isWithin(what, 0, 11)) {
            throw new IllegalArgumentException("what is not from 0 to 11");
        }
        switch (what) {
            case 0:
                return now.halls.size();
            case 1:
                return now.films.size();
            case 2:
                return now.trailers.size();
            case 3:
                return now.shows.size();
            case 4:
                return now.shows.size() - now.total(SHOWS, EVERY, 0);
            case 5:
                return now.total(TICKETS, EVERY, 0);
            case 6:
                return now.total(RECEIPTS, EVERY, 0);
            case 7:
                return now.total(PARTS, EVERY, 0);
            case 8:
                return now.total(RECEIPTS, EVERY, 0) - now.total(PARTS, EVERY, 0);
            case 9:
                return now.givenBack;
            case 10:
                return now.total(MINUTES, EVERY, 0);
            default:
                return now.today;
        }
    }

    /** Returns the film with the most tickets, of several the lowest one. */
    public int bestFilm() throws NoSuchElementException {
        if (now.films.size() == 0) {
            throw new NoSuchElementException("there are no films");
        }
        int best = 0;
        int most = now.total(TICKETS, SHOW_FILM, best);
        for (int film = 1; film < now.films.size(); film++) {
            int tickets = now.total(TICKETS, SHOW_FILM, film);
            if (tickets > most) {
                best = film;
                most = tickets;
            }
        }
        return best;
    }

    /** Returns the share of seats that were sold. */
    public double use() throws ArithmeticException {
        int seats = now.total(SEATS, EVERY, 0);
        if (seats == 0) {
            throw new ArithmeticException("there are no shows that are not cancelled");
        }
        return (double) now.total(TICKETS, EVERY, 0) / (double) seats;
    }

    /** Writes the programme of a hall on a day, in place of what was written before, and returns its length. */
    public int write(int hall, int day) throws IndexOutOfBoundsException, IllegalArgumentException {
        if (!now.halls.isRow(hall)) {
            throw new IndexOutOfBoundsException("there is no such hall");
        }
        if (!isDay(day)) {
            throw new IllegalArgumentException("there is no such day");
        }
        programme.setLength(0);
        if (now.isClosed(hall, day)) {
            programme.append("closed: ");
        }
        int show = now.showAfter(hall, day, NONE);
        if (show == NONE) {
            programme.append("none");
        }
        for (int k = 0; k < MOST_SHOWS && show != NONE; k++) {
            if (k > 0) {
                programme.append(", ");
            }
            appendShow(show);
            show = now.showAfter(hall, day, now.shows.get(show, SHOW_START));
        }
        return programme.length();
    }

    /** Returns a character of the written programme, which is empty at first. */
    public char written(int index) throws IndexOutOfBoundsException {
        if (index < 0 || index >= programme.length()) {
            throw new IndexOutOfBoundsException("there is no such index");
        }
        return programme.charAt(index);
    }

    /** Appends a character to the input and returns the length of the input. */
    public int append(char character) throws IllegalArgumentException, IllegalStateException {
        if (!isWithin(character, 32, 126)) {
            throw new IllegalArgumentException("the code is out of range");
        }
        if (input.length() >= MOST_SIGNS) {
            throw new IllegalStateException("the input holds 60 characters");
        }
        input.append(character);
        return input.length();
    }

    /** Carries out the commands of the text in the input, all or none, and returns their number. */
    public int perform() throws IllegalArgumentException, UnsupportedOperationException {
        boolean isText = reader.isText(input);
        input.setLength(0);
        if (!isText) {
            keptErrorPosition = reader.position;
            throw new IllegalArgumentException("the input is not a text of commands");
        }
        history.keepSpare(now);
        for (int k = 0; k < reader.commands.size(); k++) {
            if (!isCarriedOut(k)) {
                history.bringSpareBack(now);
                throw new UnsupportedOperationException("a command cannot be carried out");
            }
        }
        history.countSpare();
        return reader.commands.size();
    }

    /** Returns the error position that was kept last. */
    public int errorPosition() throws NoSuchElementException {
        if (keptErrorPosition == NONE) {
            throw new NoSuchElementException("no error position was kept");
        }
        return keptErrorPosition;
    }

    /** Undoes the latest change that was not undone and returns how many can still be undone. */
    public int undo() throws IllegalStateException {
        if (history.changes == 0) {
            throw new IllegalStateException("there is no change to undo");
        }
        history.stepBack(now);
        return history.changes;
    }

    /** Saves, in place of what was saved before, and returns the number of shows that have been planned. */
    public int save() {
        saved.copyFrom(now);
        isSaved = true;
        return now.shows.size();
    }

    /** Restores what was saved, for good, and returns the number of shows that have been planned. */
    public int restore() throws IllegalStateException {
        if (!isSaved) {
            throw new IllegalStateException("nothing was saved");
        }
        now.copyFrom(saved);
        history.forget();
        return now.shows.size();
    }

    private static boolean isWithin(int number, int lowest, int highest) {
        return number >= lowest && number <= highest;
    }

    private static boolean isDay(int day) {
        return isWithin(day, 0, LAST_DAY);
    }

    private static boolean isMinute(int minute) {
        return isWithin(minute, 0, DAY_MINUTES - 1);
    }

    private static boolean isRating(int rating) {
        return isWithin(rating, 0, HIGHEST_RATING);
    }

    private static boolean isGenres(int genres) {
        return isWithin(genres, 1, ALL_GENRES);
    }

    private void refuse(int newReason, int newDetail) {
        reason = newReason;
        reasonDetail = newDetail;
    }

    // The faults are looked for ahead of every change, so that commands of a text find them without an exception.

    private int faultOfPlan(int hall, int film, int day, int start) {
        if (!now.halls.isRow(hall) || !now.films.isRow(film)) {
            return INDEX_FAULT;
        }
        if (!isDay(day) || !isMinute(start)) {
            return ARGUMENT_FAULT;
        }
        rules.takeUp(now, NEW_SHOW, film, day);
        int rule = rules.firstBroken(now, hall, start, start + now.newMinutes(film, day));
        if (rule != 0) {
            refuse(rule, rules.detail);
            return REFUSED;
        }
        if (now.shows.size() >= MOST_SHOWS) {
            refuse(FULL_PROGRAMME, MOST_SHOWS);
            return REFUSED;
        }
        return NO_FAULT;
    }

    private boolean isMoveRefused(int show, int hall, int start) {
        int seats = now.halls.get(hall, HALL_SEATS);
        if (seats < now.shows.get(show, SHOW_TICKETS)) {
            refuse(TOO_FEW_SEATS, seats);
            return true;
        }
        rules.takeUp(now, show, now.shows.get(show, SHOW_FILM), now.shows.get(show, SHOW_DAY));
        int rule = rules.firstBroken(now, hall, start, start + now.minutesOf(show));
        if (rule != 0) {
            refuse(rule, rules.detail);
        }
        return rule != 0;
    }

    private int faultOfSell(int show, int tickets) {
        if (!now.shows.isRow(show)) {
            return INDEX_FAULT;
        }
        if (!isWithin(tickets, 1, MOST_SEATS)) {
            return ARGUMENT_FAULT;
        }
        if (!now.isOpen(show)) {
            return STATE_FAULT;
        }
        int left = now.seatsOf(show) - now.shows.get(show, SHOW_TICKETS);
        if (left < tickets) {
            refuse(TOO_FEW_LEFT, left);
            return REFUSED;
        }
        return NO_FAULT;
    }

    private int faultOfCancel(int show) {
        if (!now.shows.isRow(show)) {
            return INDEX_FAULT;
        }
        return now.isOpen(show) ? NO_FAULT : STATE_FAULT;
    }

    private int faultOfFail(int hall, int day) {
        if (!now.halls.isRow(hall)) {
            return INDEX_FAULT;
        }
        if (!isWithin(day, now.today, LAST_DAY)) {
            return ARGUMENT_FAULT;
        }
        return now.halls.get(hall, HALL_CLOSED) == NONE ? NO_FAULT : STATE_FAULT;
    }

    private int faultOfAdvance(int days) {
        boolean isRight = isWithin(days, 1, MOST_DAYS_PASSED) && now.today + days <= LAST_DAY;
        return isRight ? NO_FAULT : ARGUMENT_FAULT;
    }

    /** Closes a hall, finds other places for its shows, and returns how many have none and are cancelled. */
    private int closeHall(int hall, int day) {
        now.halls.put(hall, HALL_CLOSED, day);
        takeOutShows(hall, day);
        int cancelled = 0;
        for (int line = 0; line < now.lines.size(); line++) {
            if (!isPlacedAgain(line, hall)) {
                now.dropShow(now.lines.get(line, LINE_SHOW));
                cancelled++;
            }
        }
        return cancelled;
    }

    /** A show that is taken out counts as cancelled until it has a place: so no rule sees it. */
    private void takeOutShows(int hall, int fromDay) {
        now.lines.clear();
        for (int day = fromDay; day <= LAST_DAY; day++) {
            int show = now.showAfter(hall, day, NONE);
            for (int k = 0; k < MOST_SHOWS && show != NONE; k++) {
                int start = now.shows.get(show, SHOW_START);
                int line = now.lines.addRow();
                now.lines.put(line, LINE_SHOW, show);
                now.lines.put(line, LINE_START_BEFORE, start);
                now.lines.put(line, LINE_HALL, NONE);
                now.lines.put(line, LINE_START, NONE);
                now.lines.put(line, LINE_TICKETS, now.shows.get(show, SHOW_TICKETS));
                now.shows.put(show, SHOW_CANCELLED, 1);
                show = now.showAfter(hall, day, start);
            }
        }
    }

    /** Looks for a place for the show of a line, at starts 0, -1, 1, -2, 2 .. from the one before; puts it there. */
    private boolean isPlacedAgain(int line, int failed) {
        int show = now.lines.get(line, LINE_SHOW);
        int before = now.lines.get(line, LINE_START_BEFORE);
        int tickets = now.lines.get(line, LINE_TICKETS);
        int minutes = now.minutesOf(show);
        int shift = now.settingOf(SHIFT);
        rules.takeUp(now, show, now.shows.get(show, SHOW_FILM), now.shows.get(show, SHOW_DAY));
        for (int k = 0; k <= 2 * shift; k++) {
            int difference = (k + 1) / 2;
            int start = k % 2 == 0 ? before + difference : before - difference;
            for (int hall = 0; hall < now.halls.size() && isMinute(start); hall++) {
                boolean isLargeEnough = hall != failed && now.halls.get(hall, HALL_SEATS) >= tickets;
                if (isLargeEnough && rules.firstBroken(now, hall, start, start + minutes) == 0) {
                    putBack(line, hall, start);
                    return true;
                }
            }
        }
        return false;
    }

    private void putBack(int line, int hall, int start) {
        int show = now.lines.get(line, LINE_SHOW);
        now.putShow(show, hall, start);
        now.shows.put(show, SHOW_CANCELLED, 0);
        now.lines.put(line, LINE_HALL, hall);
        now.lines.put(line, LINE_START, start);
    }

    private void appendShow(int show) {
        programme.append(now.shows.get(show, SHOW_START));
        programme.append('-');
        programme.append(now.shows.get(show, SHOW_END));
        programme.append(" f");
        programme.append(now.shows.get(show, SHOW_FILM));
        programme.append(' ');
        programme.append(now.shows.get(show, SHOW_TICKETS));
        programme.append('/');
        programme.append(now.seatsOf(show));
    }

    /** Carries out a command of the text that was read, unless it has a fault; returns whether it had none. */
    private boolean isCarriedOut(int command) {
        int first = reader.commands.get(command, COMMAND_NUMBERS);
        int second = reader.commands.get(command, COMMAND_NUMBERS + 1);
        int third = reader.commands.get(command, COMMAND_NUMBERS + 2);
        int fourth = reader.commands.get(command, COMMAND_NUMBERS + 3);
        int fault;
        switch (reader.commands.get(command, COMMAND_WORD)) {
            case PLAN_COMMAND:
                fault = faultOfPlan(first, second, third, fourth);
                if (fault == NO_FAULT) {
                    now.addShow(first, second, third, fourth);
                }
                break;
            case SELL_COMMAND:
                fault = faultOfSell(first, second);
                if (fault == NO_FAULT) {
                    now.addTickets(first, second);
                }
                break;
            case DROP_COMMAND:
                fault = faultOfCancel(first);
                if (fault == NO_FAULT) {
                    now.dropShow(first);
                }
                break;
            case FAIL_COMMAND:
                fault = faultOfFail(first, second);
                if (fault == NO_FAULT) {
                    closeHall(first, second);
                }
                break;
            case DAYS_COMMAND:
            default:
                fault = faultOfAdvance(first);
                if (fault == NO_FAULT) {
                    now.today += first;
                }
                break;
        }
        return fault == NO_FAULT;
    }

    /** Rows of numbers, all made at once; a cell outside of them reads as 0 and keeps nothing. */
    private static final class Table {
        private final int[] cells;
        private final int columns;
        private final int mostRows;
        private int rows = 0;

        Table(int mostRows, int columns) {
            this.mostRows = mostRows;
            this.columns = columns;
            cells = new int[Math.max(mostRows * columns, 0)];
        }

        int size() {
            return rows;
        }

        boolean isRow(int row) {
            return row >= 0 && row < rows;
        }

        int get(int row, int column) {
            int index = row * columns + column;
            return index >= 0 && index < cells.length ? cells[index] : 0;
        }

        void put(int row, int column, int number) {
            int index = row * columns + column;
            if (index >= 0 && index < cells.length) {
                cells[index] = number;
            }
        }

        /** A row may have been used before, so it is emptied. */
        int addRow() {
            if (rows >= mostRows) {
                return NONE;
            }
            int row = rows;
            int first = row * columns;
            for (int index = first; index >= 0 && index < first + columns && index < cells.length; index++) {
                cells[index] = 0;
            }
            rows++;
            return row;
        }

        void clear() {
            rows = 0;
        }

        void copyFrom(Table other) {
            rows = other.rows;
            System.arraycopy(other.cells, 0, cells, 0, Math.min(cells.length, other.cells.length));
        }
    }

    /** All that undo, saving and restoring concern. */
    private static final class State {
        final Table halls = new Table(MOST_HALLS, HALL_COLUMNS);
        final Table films = new Table(MOST_FILMS, FILM_COLUMNS);
        final Table trailers = new Table(MOST_TRAILERS, TRAILER_COLUMNS);
        final Table shows = new Table(MOST_SHOWS, SHOW_COLUMNS);
        final Table lines = new Table(MOST_SHOWS, LINE_COLUMNS);
        private final Table settings = new Table(1, LIMITS + HOURS);
        int today = 0;
        int givenBack = 0;

        State() {
            for (int number = 0; number < FIRST_SETTINGS.length; number++) {
                settings.put(0, number, FIRST_SETTINGS[number]);
            }
            for (int hour = 0; hour < HOURS; hour++) {
                settings.put(0, LIMITS + hour, HIGHEST_RATING);
            }
        }

        void copyFrom(State other) {
            halls.copyFrom(other.halls);
            films.copyFrom(other.films);
            trailers.copyFrom(other.trailers);
            shows.copyFrom(other.shows);
            lines.copyFrom(other.lines);
            settings.copyFrom(other.settings);
            today = other.today;
            givenBack = other.givenBack;
        }

        int settingOf(int number) {
            return settings.get(0, number);
        }

        int exchangeSetting(int number, int value) {
            int previous = settings.get(0, number);
            settings.put(0, number, value);
            return previous;
        }

        boolean isClosed(int hall, int day) {
            int closed = halls.get(hall, HALL_CLOSED);
            return closed != NONE && day >= closed;
        }

        int shareOn(int film, int day) {
            int weeks = (day - films.get(film, FILM_RELEASE)) / WEEK_DAYS;
            int share = films.get(film, FILM_FIRST) - films.get(film, FILM_STEP) * weeks;
            return Math.max(share, films.get(film, FILM_LEAST));
        }

        boolean isFitting(int trailer, int film, int day) {
            int advertised = trailers.get(trailer, TRAILER_FILM);
            return advertised != film
                    && films.get(advertised, FILM_RELEASE) > day
                    && trailers.get(trailer, TRAILER_RATING) <= films.get(film, FILM_RATING)
                    && (trailers.get(trailer, TRAILER_GENRES) & films.get(film, FILM_GENRES)) != 0;
        }

        int reelMinutes(int reel) {
            int minutes = 0;
            for (int trailer = 0; trailer < trailers.size(); trailer++) {
                if ((reel >> trailer & 1) != 0) {
                    minutes += trailers.get(trailer, TRAILER_LENGTH);
                }
            }
            return minutes;
        }

        int bestReel(int film, int day) {
            int block = settings.get(0, BLOCK);
            int fitting = 0;
            for (int trailer = 0; trailer < trailers.size(); trailer++) {
                if (isFitting(trailer, film, day)) {
                    fitting |= 1 << trailer;
                }
            }
            int best = 0;
            int bestMinutes = 0;
            for (int reel = 1; reel < 1 << MOST_TRAILERS; reel++) {
                if ((reel & ~fitting) == 0 && Integer.bitCount(reel) <= REEL_TRAILERS) {
                    int minutes = reelMinutes(reel);
                    boolean isBetter = minutes > bestMinutes || minutes == bestMinutes && isAhead(reel, best);
                    if (minutes <= block && isBetter) {
                        best = reel;
                        bestMinutes = minutes;
                    }
                }
            }
            return best;
        }

        /** Of two reels of one size, the one that holds the lowest trailer that only one of them holds is first. */
        private static boolean isAhead(int reel, int other) {
            int trailers = Integer.bitCount(reel);
            int otherTrailers = Integer.bitCount(other);
            if (trailers != otherTrailers) {
                return trailers < otherTrailers;
            }
            int different = reel ^ other;
            return (reel & different & -different) != 0;
        }

        int newMinutes(int film, int day) {
            return reelMinutes(bestReel(film, day)) + films.get(film, FILM_LENGTH);
        }

        int addShow(int hall, int film, int day, int start) {
            int reel = bestReel(film, day);
            int minutes = reelMinutes(reel);
            int show = shows.addRow();
            shows.put(show, SHOW_HALL, hall);
            shows.put(show, SHOW_FILM, film);
            shows.put(show, SHOW_DAY, day);
            shows.put(show, SHOW_START, start);
            shows.put(show, SHOW_END, start + minutes + films.get(film, FILM_LENGTH));
            shows.put(show, SHOW_REEL, reel);
            shows.put(show, SHOW_PRICE, settings.get(0, PRICE));
            shows.put(show, SHOW_REEL_MINUTES, minutes);
            return show;
        }

        void putShow(int show, int hall, int start) {
            int later = start - shows.get(show, SHOW_START);
            shows.put(show, SHOW_HALL, hall);
            shows.put(show, SHOW_START, start);
            shows.put(show, SHOW_END, shows.get(show, SHOW_END) + later);
        }

        int dropShow(int show) {
            int tickets = shows.get(show, SHOW_TICKETS);
            shows.put(show, SHOW_CANCELLED, 1);
            shows.put(show, SHOW_TICKETS, 0);
            givenBack += tickets;
            return tickets;
        }

        int addTickets(int show, int tickets) {
            int all = shows.get(show, SHOW_TICKETS) + tickets;
            shows.put(show, SHOW_TICKETS, all);
            return all;
        }

        private boolean isCancelled(int show) {
            return shows.get(show, SHOW_CANCELLED) != 0;
        }

        /** Returns 1 for a show that is cancelled, otherwise 2 for one that is over, otherwise 0. */
        int statusOf(int show) {
            if (isCancelled(show)) {
                return 1;
            }
            return shows.get(show, SHOW_DAY) < today ? 2 : 0;
        }

        boolean isOpen(int show) {
            return statusOf(show) == 0;
        }

        int minutesOf(int show) {
            return shows.get(show, SHOW_END) - shows.get(show, SHOW_START);
        }

        int seatsOf(int show) {
            return halls.get(shows.get(show, SHOW_HALL), HALL_SEATS);
        }

        int cleaningOf(int show) {
            return halls.get(shows.get(show, SHOW_HALL), HALL_CLEANING);
        }

        int receiptsOf(int show) {
            return shows.get(show, SHOW_TICKETS) * shows.get(show, SHOW_PRICE);
        }

        int partOf(int show) {
            int share = shareOn(shows.get(show, SHOW_FILM), shows.get(show, SHOW_DAY));
            return receiptsOf(show) * share / PERCENT;
        }

        private int measureOf(int show, int measure) {
            switch (measure) {
                case SHOWS:
                    return 1;
                case MINUTES:
                    return minutesOf(show);
                case TICKETS:
                    return shows.get(show, SHOW_TICKETS);
                case RECEIPTS:
                    return receiptsOf(show);
                case PARTS:
                    return partOf(show);
                default:
                    return seatsOf(show);
            }
        }

        /** Sums up a measure over the shows, not cancelled, with a number in a column. */
        int total(int measure, int column, int number) {
            int total = 0;
            for (int show = 0; show < shows.size(); show++) {
                boolean isCounted = column == EVERY || shows.get(show, column) == number;
                if (isCounted && !isCancelled(show)) {
                    total += measureOf(show, measure);
                }
            }
            return total;
        }

        boolean isShownOn(int show, int day) {
            return shows.get(show, SHOW_DAY) == day && shows.get(show, SHOW_CANCELLED) == 0;
        }

        private boolean isShownIn(int show, int hall, int day) {
            return shows.get(show, SHOW_HALL) == hall && shows.get(show, SHOW_DAY) == day
                    && shows.get(show, SHOW_CANCELLED) == 0;
        }

        /** Returns the next show in a hall on a day that starts after a minute, -1 without one. */
        int showAfter(int hall, int day, int minute) {
            int next = NONE;
            for (int show = 0; show < shows.size(); show++) {
                int start = shows.get(show, SHOW_START);
                boolean isNearer = next == NONE || start < shows.get(next, SHOW_START);
                if (start > minute && isNearer && isShownIn(show, hall, day)) {
                    next = show;
                }
            }
            return next;
        }

        int shownMinutes(int hall, int day) {
            int minutes = 0;
            for (int show = 0; show < shows.size(); show++) {
                if (isShownIn(show, hall, day)) {
                    minutes += minutesOf(show);
                }
            }
            return minutes;
        }

        /** A show ends within the day, but the cleaning after it may go on beyond it. */
        int cleanedMinutes(int hall, int day) {
            int minutes = 0;
            for (int show = 0; show < shows.size(); show++) {
                if (isShownIn(show, hall, day)) {
                    minutes += Math.min(cleaningOf(show), DAY_MINUTES - shows.get(show, SHOW_END));
                }
            }
            return minutes;
        }

        int greatestEnd(int hall, int day) {
            int end = NONE;
            for (int show = 0; show < shows.size(); show++) {
                if (isShownIn(show, hall, day)) {
                    end = Math.max(end, shows.get(show, SHOW_END));
                }
            }
            return end;
        }

        private boolean isRunning(int show, int day, int minute) {
            return shows.get(show, SHOW_START) <= minute && minute < shows.get(show, SHOW_END)
                    && isShownOn(show, day);
        }

        int running(int measure, int day, int minute) {
            int total = 0;
            for (int show = 0; show < shows.size(); show++) {
                if (isRunning(show, day, minute)) {
                    total += measureOf(show, measure);
                }
            }
            return total;
        }

        int firstRunning(int day, int minute) {
            for (int show = 0; show < shows.size(); show++) {
                if (isRunning(show, day, minute)) {
                    return show;
                }
            }
            return NONE;
        }

        /** Times in one hall never meet, so each cleaning at a minute is that of another hall. */
        int cleanedHalls(int day, int minute) {
            int cleaned = 0;
            for (int show = 0; show < shows.size(); show++) {
                int end = shows.get(show, SHOW_END);
                if (end <= minute && minute < end + cleaningOf(show) && isShownOn(show, day)) {
                    cleaned++;
                }
            }
            return cleaned;
        }
    }

    /** Looks whether a show in a place breaks one of the rules 1 to 9. */
    private static final class Rules {
        private static final int NUMBER = 0;
        private static final int HALL = 1;
        private static final int EXIT = 2;
        private static final int START = 3;
        private static final int END = 4;
        private static final int CLEANED = 5;
        private static final int CARRIED = 6;
        private static final int COLUMNS = 7;

        /** The other shows of the day, in ascending order of their numbers. */
        private final Table others = new Table(MOST_SHOWS, COLUMNS);
        private int film = 0;
        private int day = 0;
        int detail = NONE;

        /** Takes up a show, of which many places may be looked at while all other shows stay as they are. */
        void takeUp(State state, int show, int newFilm, int newDay) {
            film = newFilm;
            day = newDay;
            int carrying = state.settingOf(CARRYING);
            others.clear();
            for (int other = 0; other < state.shows.size(); other++) {
                if (other != show && state.isShownOn(other, day)) {
                    addOther(state, other, carrying);
                }
            }
        }

        /** A show of another film needs no print of this one, as if its print were carried away as it starts. */
        private void addOther(State state, int other, int carrying) {
            int hall = state.shows.get(other, SHOW_HALL);
            int start = state.shows.get(other, SHOW_START);
            int end = state.shows.get(other, SHOW_END);
            boolean isSameFilm = state.shows.get(other, SHOW_FILM) == film;
            int row = others.addRow();
            others.put(row, NUMBER, other);
            others.put(row, HALL, hall);
            others.put(row, EXIT, state.halls.get(hall, HALL_EXIT));
            others.put(row, START, start);
            others.put(row, END, end);
            others.put(row, CLEANED, end + state.halls.get(hall, HALL_CLEANING));
            others.put(row, CARRIED, isSameFilm ? end + carrying : start);
        }

        /** Returns the first rule that the show would break in a place, 0 for none, and keeps its detail. */
        int firstBroken(State state, int hall, int start, int end) {
            int release = state.films.get(film, FILM_RELEASE);
            int limit = state.settingOf(LIMITS + start / HOUR_MINUTES);
            int cleaned = end + state.halls.get(hall, HALL_CLEANING);
            if (day < state.today) {
                return broken(1, state.today);
            }
            if (state.isClosed(hall, day)) {
                return broken(2, hall);
            }
            if (day < release) {
                return broken(3, release);
            }
            if (state.films.get(film, FILM_RATING) > limit) {
                return broken(4, limit);
            }
            if (end > DAY_MINUTES) {
                return broken(5, end);
            }
            int meeting = firstInTheWay(hall, start, cleaned);
            if (meeting != NONE) {
                return broken(6, meeting);
            }
            int carried = end + state.settingOf(CARRYING);
            int minute = firstCrowded(start, carried, state.films.get(film, FILM_PRINTS), START, CARRIED);
            if (minute != NONE) {
                return broken(7, minute);
            }
            meeting = firstAtExit(state.halls.get(hall, HALL_EXIT), end, state.settingOf(GAP));
            if (meeting != NONE) {
                return broken(8, meeting);
            }
            minute = firstCrowded(end, cleaned, state.settingOf(CREWS), END, CLEANED);
            return minute != NONE ? broken(9, minute) : broken(0, NONE);
        }

        private int broken(int rule, int newDetail) {
            detail = newDetail;
            return rule;
        }

        private int firstInTheWay(int hall, int start, int cleaned) {
            for (int k = 0; k < others.size(); k++) {
                boolean isMet = others.get(k, START) < cleaned && start < others.get(k, CLEANED);
                if (isMet && others.get(k, HALL) == hall) {
                    return others.get(k, NUMBER);
                }
            }
            return NONE;
        }

        private int firstAtExit(int exit, int end, int gap) {
            for (int k = 0; k < others.size(); k++) {
                if (others.get(k, EXIT) == exit && Math.abs(others.get(k, END) - end) < gap) {
                    return others.get(k, NUMBER);
                }
            }
            return NONE;
        }

        /**
         * Returns the first minute from one on until another at which this show and others are more than a number,
         * -1 without one. They get more only at the first minute and where another begins: no other is looked at.
         */
        private int firstCrowded(int from, int until, int most, int beginning, int ending) {
            int first = NONE;
            for (int k = NONE; k < others.size(); k++) {
                int minute = k == NONE ? from : others.get(k, beginning);
                if (minute >= from && minute < until && (first == NONE || minute < first)) {
                    int count = 1;
                    for (int n = 0; n < others.size(); n++) {
                        if (others.get(n, beginning) <= minute && minute < others.get(n, ending)) {
                            count++;
                        }
                    }
                    if (count > most) {
                        first = minute;
                    }
                }
            }
            return first;
        }
    }

    /** The states before the latest changes, in a ring; one slot more is spare for a change that may not come. */
    private static final class History {
        private final State[] slots = new State[MOST_CHANGES + 1];
        private int spare = 0;
        int changes = 0;

        History() {
            for (int k = 0; k < slots.length; k++) {
                slots[k] = new State();
            }
        }

        void keep(State now) {
            keepSpare(now);
            countSpare();
        }

        void keepSpare(State now) {
            State slot = spare >= 0 && spare < slots.length ? slots[spare] : null;
            if (slot != null) {
                slot.copyFrom(now);
            }
        }

        void bringSpareBack(State now) {
            State slot = spare >= 0 && spare < slots.length ? slots[spare] : null;
            if (slot != null) {
                now.copyFrom(slot);
            }
        }

        /** Makes what the spare slot keeps the state before the latest change; the oldest slot is spare then. */
        void countSpare() {
            spare = spare + 1 < slots.length ? spare + 1 : 0;
            changes = Math.min(changes + 1, MOST_CHANGES);
        }

        void stepBack(State now) {
            spare = spare > 0 ? spare - 1 : slots.length - 1;
            changes--;
            bringSpareBack(now);
        }

        void forget() {
            changes = 0;
        }
    }

    /** Reads a text of commands. */
    private static final class Reader {
        /** The words of the commands by their numbers; each has four letters. */
        private static final String WORDS = "planselldropfaildays";
        private static final int LETTERS = 4;
        private static final int[] NUMBERS = {4, 2, 1, 2, 1};
        private static final int DIGITS = 3;
        private static final int TEN = 10;
        private static final int NO_SIGN = -1;

        final Table commands = new Table(MOST_COMMANDS, COMMAND_COLUMNS);
        /** All signs ahead of it are right: where reading stops too early, it is the error position. */
        int position = 0;

        /** Returns whether a text is right; then its commands are kept. */
        boolean isText(StringBuilder text) {
            position = 0;
            commands.clear();
            for (int k = 0; k <= MOST_SIGNS; k++) {
                if (!isCommandRead(text)) {
                    return false;
                }
                if (position == text.length()) {
                    return true;
                }
                if (!isSignRead(text, ';')) {
                    return false;
                }
            }
            return false;
        }

        private static int signAt(StringBuilder text, int place) {
            return place >= 0 && place < text.length() ? text.charAt(place) : NO_SIGN;
        }

        private boolean isSignRead(StringBuilder text, char sign) {
            boolean isThere = signAt(text, position) == sign;
            if (isThere) {
                position++;
            }
            return isThere;
        }

        private boolean isCommandRead(StringBuilder text) {
            int word = readWord(text);
            if (word == NONE) {
                return false;
            }
            int command = commands.addRow();
            commands.put(command, COMMAND_WORD, word);
            int numbers = word >= 0 && word < NUMBERS.length ? NUMBERS[word] : 0;
            for (int k = 0; k < numbers; k++) {
                if (!isSignRead(text, ' ') || !isDigit(signAt(text, position))) {
                    return false;
                }
                commands.put(command, COMMAND_NUMBERS + k, readNumber(text));
            }
            return true;
        }

        /** Returns the number of the word at the position, -1 without one, and goes behind its right letters. */
        private int readWord(StringBuilder text) {
            int most = 0;
            int found = NONE;
            for (int word = 0; word < NUMBERS.length; word++) {
                int letters = rightLetters(text, word);
                most = Math.max(most, letters);
                if (letters == LETTERS) {
                    found = word;
                }
            }
            position += most;
            return found;
        }

        private int rightLetters(StringBuilder text, int word) {
            for (int k = 0; k < LETTERS; k++) {
                int letter = word * LETTERS + k;
                boolean isRight = letter >= 0 && letter < WORDS.length()
                        && signAt(text, position + k) == WORDS.charAt(letter);
                if (!isRight) {
                    return k;
                }
            }
            return LETTERS;
        }

        private static boolean isDigit(int sign) {
            return sign >= '0' && sign <= '9';
        }

        /** Nothing follows a 0 at the start of a number, so a digit there is left for the next sign to be wrong. */
        private int readNumber(StringBuilder text) {
            int number = 0;
            for (int k = 0; k < DIGITS; k++) {
                int sign = signAt(text, position);
                if (!isDigit(sign) || k > 0 && number == 0) {
                    return number;
                }
                number = number * TEN + sign - '0';
                position++;
            }
            return number;
        }
    }
}
