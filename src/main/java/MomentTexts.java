import java.util.Arrays;

/**
 * Days, instants with leap seconds, zones, and the texts of RFC 3339 and ISO 8601 that tell them.
 * What each call promises stands in the project's document; README.md says how to use the class.
 */
public final class MomentTexts {
    public static final long NONE = Long.MIN_VALUE;

    private static final int MOST_BYTES = 120;
    private static final int MOST_ZONES = 8;
    private static final int MOST_CHANGES = 60;
    private static final int MOST_OFFSET = 1439;
    private static final long DAY_MINUTES = 1440;
    private static final long DAY_SECONDS = 86400;
    private static final int MOST_NANOS = 999999999;
    private static final long NANOS_OF_SECOND = 1000000000;

    private static final int FORMS = 7;
    private static final int PARTS = 3;
    private static final int WHATS = 13;

    private static final long NEXT_SECONDS = 2000 * DAY_SECONDS;
    private static final long BETWEEN_SECONDS = 30000 * DAY_SECONDS;
    private static final long MOST_DURATION = 999999999;
    private static final long MOST_DURATION_SECONDS = 3599999999999L;

    private final Leaps leaps;
    private final Zone[] zones;
    private int zoneCount;
    private final Rule draft;
    private final Cursor text;
    private final Writer made;
    private final FormReader reader;
    private final long[] fields;
    private final long[] found;

    public MomentTexts() {
        leaps = new Leaps();
        zones = new Zone[MOST_ZONES];
        zoneCount = 0;
        draft = new Rule();
        text = new Cursor();
        made = new Writer();
        reader = new FormReader(text, leaps);
        fields = new long[PARTS * WHATS];
        Arrays.fill(fields, NONE);
        // One zone tells at most its first offset, one for each change and two of its rule.
        found = new long[MOST_CHANGES + 3];
    }

    // ---- days

    public long day(int year, int month, int day) throws IllegalArgumentException {
        if (!Days.holdsYear(year) || day < 1 || day > Days.monthLength(year, month)) {
            throw new IllegalArgumentException("no such date");
        }
        return Days.numberOf(year, month, day);
    }

    public int date(long day, int what) throws IllegalArgumentException {
        if (!Days.holds(day)) {
            throw new IllegalArgumentException("a day of no year");
        }
        int year = Days.yearOf(day);
        switch (what) {
            case 0:
                return year;
            case 1:
                return Days.monthOf(day);
            case 2:
                return Days.dayOfMonth(day);
            case 3:
                return Days.weekdayOf(day);
            case 4:
                return (int) (day - Days.yearStart(year)) + 1;
            case 5:
                return Days.weekYearOf(day);
            case 6:
                return Days.weekOf(day);
            case 7:
                return Days.isLeapYear(year) ? 1 : 0;
            case 8:
                return Days.monthLength(year, Days.monthOf(day));
            case 9:
                return Days.weeksOf(Days.weekYearOf(day));
            default:
                throw new IllegalArgumentException("no such part of a day");
        }
    }

    public long weekDay(int weekYear, int week, int weekday) throws IllegalArgumentException {
        if (!Days.holdsYear(weekYear) || week < 1 || week > Days.weeksOf(weekYear) || weekday < 1 || weekday > 7) {
            throw new IllegalArgumentException("no such day of a week");
        }
        long day = Days.weekStart(weekYear, week) + weekday - 1;
        if (!Days.holds(day)) {
            throw new IllegalArgumentException("a day of no year");
        }
        return day;
    }

    public long months(long day, int months) throws IllegalArgumentException {
        long later = Days.monthsLater(day, months);
        if (later == NONE) {
            throw new IllegalArgumentException("a day of no year");
        }
        return later;
    }

    public long easter(int year) throws IllegalArgumentException {
        if (year < 0 || year > Days.MOST_YEAR) {
            throw new IllegalArgumentException("no year with an Easter");
        }
        return Days.easterOf(year);
    }

    // ---- instants, leap days, zones

    public int leap(long day) throws IllegalArgumentException, UnsupportedOperationException {
        if (!Days.holds(day) || leaps.has(day)) {
            throw new IllegalArgumentException("no day that can become a leap day");
        }
        if (leaps.isFull()) {
            throw new UnsupportedOperationException("no room for more leap days");
        }
        return leaps.add(day);
    }

    public long instant(long minute, int second) throws IllegalArgumentException {
        if (!Days.holdsMinute(minute) || second < 0 || second > leaps.lastSecondOf(minute)) {
            throw new IllegalArgumentException("no such second of a minute");
        }
        return leaps.instantOf(minute, second);
    }

    public long reading(long instant, int what) throws IllegalArgumentException {
        if (!leaps.holds(instant) || what < 0 || what > 1) {
            throw new IllegalArgumentException("no such reading of an instant");
        }
        return what == 0 ? leaps.minuteAt(instant) : leaps.secondAt(instant);
    }

    public int zone(int offset) throws IllegalArgumentException, UnsupportedOperationException {
        if (!isOffset(offset)) {
            throw new IllegalArgumentException("no such offset");
        }
        if (zoneCount < 0 || zoneCount >= zones.length) {
            throw new UnsupportedOperationException("no room for more zones");
        }
        zones[zoneCount] = new Zone(offset, leaps);
        zoneCount++;
        return zoneCount - 1;
    }

    public int change(int zone, long instant, int offset)
            throws IllegalArgumentException, UnsupportedOperationException {
        Zone place = zoneAt(zone);
        if (place == null || !isOffset(offset) || !leaps.holds(instant) || !place.isBehindChanges(instant)) {
            throw new IllegalArgumentException("no such change");
        }
        if (place.isFull()) {
            throw new UnsupportedOperationException("no room for more changes");
        }
        return place.add(instant, offset);
    }

    public long rule(int zone) throws IllegalArgumentException {
        Zone place = zoneAt(zone);
        if (place == null) {
            throw new IllegalArgumentException("no such zone");
        }
        long fault = draft.scan(text);
        if (fault == NONE) {
            place.rule.copy(draft);
        }
        return fault;
    }

    public int offset(int zone, long instant) throws IllegalArgumentException {
        Zone place = zoneAt(zone);
        if (place == null || !leaps.holds(instant)) {
            throw new IllegalArgumentException("no such zone or instant");
        }
        return place.offsetAt(instant);
    }

    public long local(int zone, long minute, int second, int k) throws IllegalArgumentException {
        Zone place = zoneAt(zone);
        if (place == null || second < 0 || second > 60 || k < -1 || !Days.holdsMinute(minute)) {
            throw new IllegalArgumentException("no such zone or local time");
        }
        int count = place.collect(minute, second, found);
        if (k == -1) {
            return count;
        }
        return k < count && k < found.length ? found[k] : NONE;
    }

    public long next(int zone, long instant) throws IllegalArgumentException {
        Zone place = zoneAt(zone);
        if (place == null || !leaps.holds(instant)) {
            throw new IllegalArgumentException("no such zone or instant");
        }
        long change = place.changeBehind(instant);
        return change == NONE || change - instant >= NEXT_SECONDS ? NONE : change;
    }

    // ---- texts in

    public int type(long bytes, int n) throws IllegalArgumentException, UnsupportedOperationException {
        if (n < 0 || n > 8) {
            throw new IllegalArgumentException("no such count of bytes");
        }
        if (text.length + n > MOST_BYTES) {
            throw new UnsupportedOperationException("no room for more bytes");
        }
        for (int i = 0; i < n; i++) {
            text.append((byte) (bytes >>> (8 * i)));
        }
        return text.length;
    }

    public int pass() {
        text.length = 0;
        for (int i = 0; i < made.length && i < made.bytes.length; i++) {
            text.append(made.bytes[i]);
        }
        return text.length;
    }

    public int clear() {
        int had = text.length;
        text.length = 0;
        return had;
    }

    public long read(int form) throws IllegalArgumentException {
        if (form < 0 || form >= FORMS) {
            throw new IllegalArgumentException("no such form");
        }
        reader.start();
        switch (form) {
            case 0:
                reader.scanStamp();
                break;
            case 1:
                reader.scanDate();
                break;
            case 2:
                reader.scanTime();
                break;
            case 3:
                reader.scanMoment(0);
                break;
            case 4:
                reader.scanDuration(0);
                break;
            case 5:
                reader.scanInterval();
                break;
            default:
                reader.scanCount();
                reader.scanInterval();
                break;
        }
        text.needEnd();
        long fault = text.verdict();
        if (fault == NONE) {
            System.arraycopy(reader.staged, 0, fields, 0, fields.length);
        }
        return fault;
    }

    public long field(int part, int what) throws IllegalArgumentException {
        if (part < 0 || part >= PARTS || what < 0 || what >= WHATS) {
            throw new IllegalArgumentException("no such field");
        }
        return fields[part * WHATS + what];
    }

    // ---- texts out

    public int writeDate(long day, int style) throws IllegalArgumentException {
        if (!Days.holds(day) || style < 0 || style > 5) {
            throw new IllegalArgumentException("no such day or style");
        }
        boolean byWeeks = style >= 4;
        int year = byWeeks ? Days.weekYearOf(day) : Days.yearOf(day);
        if (!Days.holdsYear(year)) {
            throw new IllegalArgumentException("a week year that is none");
        }
        boolean dashed = style % 2 == 0 || !Writer.isPlainYear(year);
        made.start();
        made.putYear(year);
        if (byWeeks) {
            made.putWeek(day, dashed);
        } else if (style >= 2) {
            made.putOrdinal((int) (day - Days.yearStart(year)) + 1, dashed);
        } else {
            made.putMonthAndDay(day, dashed);
        }
        return made.length;
    }

    public int writeInstant(long instant, int nanos, int offset, int digits) throws IllegalArgumentException {
        if (!leaps.holds(instant) || nanos < 0 || nanos > MOST_NANOS || !isOffset(offset)
                || digits < 0 || digits > 9) {
            throw new IllegalArgumentException("no such instant, part or offset");
        }
        long minute = leaps.minuteAt(instant) + offset;
        if (!Days.holdsMinute(minute)) {
            throw new IllegalArgumentException("a local time of no year");
        }
        long day = Math.floorDiv(minute, DAY_MINUTES);
        made.start();
        made.putYear(Days.yearOf(day));
        made.putMonthAndDay(day, true);
        made.putTime((int) (minute - day * DAY_MINUTES), leaps.secondAt(instant));
        made.putPart(nanos, digits);
        made.putOffset(offset);
        return made.length;
    }

    public int writeDuration(long months, long days, long seconds, int nanos) throws IllegalArgumentException {
        if (months < 0 || months > MOST_DURATION || days < 0 || days > MOST_DURATION
                || seconds < 0 || seconds > MOST_DURATION_SECONDS || nanos < 0 || nanos > MOST_NANOS) {
            throw new IllegalArgumentException("no such duration");
        }
        made.start();
        made.put('P');
        made.putCount(months / 12, 'Y');
        made.putCount(months % 12, 'M');
        made.putCount(days, 'D');
        if (seconds > 0 || nanos > 0 || made.length == 1) {
            made.put('T');
            made.putCount(seconds / 3600, 'H');
            made.putCount(seconds / 60 % 60, 'M');
            made.putSeconds(seconds % 60, nanos);
        }
        return made.length;
    }

    public int out(int i) throws IndexOutOfBoundsException {
        if (i < 0 || i >= made.length || i >= made.bytes.length) {
            throw new IndexOutOfBoundsException("no such byte");
        }
        return made.bytes[i] & 255;
    }

    // ---- reckoning

    public long plus(int zone, long instant, int months, int days) throws IllegalArgumentException {
        Zone place = zoneAt(zone);
        if (place == null || !leaps.holds(instant)) {
            throw new IllegalArgumentException("no such zone or instant");
        }
        long later = goOn(place, instant, months, days);
        if (later == NONE) {
            throw new IllegalArgumentException("a time of no year");
        }
        return later;
    }

    public long between(int zone, long from, long to, int what) throws IllegalArgumentException {
        Zone place = zoneAt(zone);
        if (place == null || !leaps.holds(from) || !leaps.holds(to) || what < 0 || what > 2) {
            throw new IllegalArgumentException("no such zone, instant or part");
        }
        if (to < from || to - from > BETWEEN_SECONDS) {
            throw new IllegalArgumentException("instants that are not apart so");
        }
        long start = leaps.minuteAt(from) + place.offsetAt(from);
        if (!Days.holdsMinute(start)) {
            throw new IllegalArgumentException("a local time of no year");
        }
        // No goal whose local minute is above this is at the end or before it, whatever its offset. From there
        // downwards: changes of the zone can bring a later day back before an earlier one.
        long latest = leaps.minuteAt(to) + MOST_OFFSET;
        int months = Days.monthsApart(start, latest);
        while (months > 0 && comesBehind(goOn(place, from, months, 0), to)) {
            months--;
        }
        if (what == 0) {
            return months;
        }
        int days = Days.daysApart(start, months, latest);
        while (days > 0 && comesBehind(goOn(place, from, months, days), to)) {
            days--;
        }
        return what == 1 ? days : to - goOn(place, from, months, days);
    }

    private static boolean isOffset(int offset) {
        return offset >= -MOST_OFFSET && offset <= MOST_OFFSET;
    }

    private Zone zoneAt(int zone) {
        return zone < 0 || zone >= zoneCount || zone >= zones.length ? null : zones[zone];
    }

    /** What plus() comes to; NONE if a day on the way or the goal is of no YEAR. */
    private long goOn(Zone zone, long instant, int months, int days) {
        long here = leaps.minuteAt(instant) + zone.offsetAt(instant);
        long hereDay = Math.floorDiv(here, DAY_MINUTES);
        long day = Days.monthsLater(hereDay, months);
        if (day == NONE || !Days.holds(day + days)) {
            return NONE;
        }
        long goal = (day + days) * DAY_MINUTES + (here - hereDay * DAY_MINUTES);
        int second = leaps.secondAt(instant);
        if (second == 60 && zone.collect(goal, second, found) == 0) {
            second = 59;
        }
        if (zone.collect(goal, second, found) > 0) {
            return found[0];
        }
        return instantOfSkipped(zone, goal, second);
    }

    private long instantOfSkipped(Zone zone, long minute, int second) {
        // A day before, by UTC, no offset brings the local reading up to the minute. One less than the first of
        // all instants: a change can be at that one, too.
        long instant = leaps.instantOf(Math.max(minute - DAY_MINUTES, Days.LEAST_MINUTE), 0) - 1;
        for (int i = 0; i < 2 * MOST_CHANGES; i++) {
            long change = zone.changeBehind(instant);
            if (change == NONE) {
                return NONE;
            }
            long minuteBefore = minute - zone.offsetAt(change - 1);
            long before = leaps.instantOf(minuteBefore, second);
            long behind = leaps.instantOf(minute - zone.offsetAt(change), second);
            if (before >= change && behind < change) {
                return Days.holdsMinute(minuteBefore) ? before : NONE;
            }
            instant = change;
        }
        return NONE;
    }

    private static boolean comesBehind(long goal, long end) {
        return goal == NONE || goal > end;
    }

    /** The proleptic Gregorian calendar. Years just outside of YEARS are reckoned too, for rules and edges. */
    private static final class Days {
        static final int LEAST_YEAR = -999999;
        static final int MOST_YEAR = 999999;
        static final long LEAST_DAY = -365961662;
        static final long MOST_DAY = 364522971;
        static final long LEAST_MINUTE = LEAST_DAY * DAY_MINUTES;
        static final long MOST_MINUTE = MOST_DAY * DAY_MINUTES + DAY_MINUTES - 1;
        static final int[] BEFORE_MONTH = {0, 31, 59, 90, 120, 151, 181, 212, 243, 273, 304, 334, 365};

        /** So many whole cycles of 400 years make every year that is reckoned one above 0. */
        static final long SHIFT_YEARS = 2000000;
        static final long SHIFT_DAYS = 731204528;
        /** Whole weeks that make every day that is reckoned one above 0. */
        static final long SHIFT_WEEKDAYS = 7 * SHIFT_DAYS;
        static final long CYCLE_YEARS = 400;
        static final long CYCLE_DAYS = 146097;

        static boolean holds(long day) {
            return day >= LEAST_DAY && day <= MOST_DAY;
        }

        static boolean holdsMinute(long minute) {
            return minute >= LEAST_MINUTE && minute <= MOST_MINUTE;
        }

        static boolean holdsYear(int year) {
            return year >= LEAST_YEAR && year <= MOST_YEAR;
        }

        static boolean isLeapYear(int year) {
            return year % 4 == 0 && (year % 100 != 0 || year % 400 == 0);
        }

        static int yearLength(int year) {
            return isLeapYear(year) ? 366 : 365;
        }

        /** 0 of a month that is none, so that no day is one of it. */
        static int monthLength(int year, int month) {
            if (month < 1 || month > 12) {
                return 0;
            }
            int length = BEFORE_MONTH[month] - BEFORE_MONTH[month - 1];
            return month == 2 && isLeapYear(year) ? length + 1 : length;
        }

        static long yearStart(int year) {
            long y = year + SHIFT_YEARS;
            return 365 * y + (y + 3) / 4 - (y + 99) / 100 + (y + 399) / 400 - SHIFT_DAYS;
        }

        static int yearOf(long day) {
            // By the mean length of a year this is at most one year off.
            int year = (int) ((day + SHIFT_DAYS) * CYCLE_YEARS / CYCLE_DAYS - SHIFT_YEARS);
            if (yearStart(year) > day) {
                return year - 1;
            }
            return yearStart(year + 1) <= day ? year + 1 : year;
        }

        static long numberOf(int year, int month, int day) {
            int before = month < 1 || month > 12 ? 0 : BEFORE_MONTH[month - 1];
            int added = month > 2 && isLeapYear(year) ? 1 : 0;
            return yearStart(year) + before + added + day - 1;
        }

        static int monthOf(long day) {
            int year = yearOf(day);
            for (int month = 12; month > 1; month--) {
                if (day >= numberOf(year, month, 1)) {
                    return month;
                }
            }
            return 1;
        }

        static int dayOfMonth(long day) {
            return (int) (day - numberOf(yearOf(day), monthOf(day), 1)) + 1;
        }

        /** Months counted through, from that of January of year 0. */
        static int monthNumber(long day) {
            return yearOf(day) * 12 + monthOf(day) - 1;
        }

        static long monthsLater(long day, int months) {
            if (!holds(day)) {
                return NONE;
            }
            long number = (long) monthNumber(day) + months;
            long year = Math.floorDiv(number, 12L);
            if (year < LEAST_YEAR || year > MOST_YEAR) {
                return NONE;
            }
            int month = (int) Math.floorMod(number, 12L) + 1;
            int last = monthLength((int) year, month);
            return numberOf((int) year, month, Math.min(dayOfMonth(day), last));
        }

        /** The whole months at most from a local minute to one that is not before it. */
        static int monthsApart(long minute, long later) {
            return monthNumber(Math.floorDiv(later, DAY_MINUTES)) - monthNumber(Math.floorDiv(minute, DAY_MINUTES));
        }

        /** The whole days at most from so many months behind a local minute to one that is not before that. */
        static int daysApart(long minute, int months, long later) {
            long day = Math.floorDiv(minute, DAY_MINUTES);
            long start = monthsLater(day, months);
            if (start == NONE) {
                return 0;
            }
            long sinceStart = later - (minute - day * DAY_MINUTES) - start * DAY_MINUTES;
            return (int) Math.floorDiv(sinceStart, DAY_MINUTES);
        }

        static int weekdayOf(long day) {
            return (int) ((day + SHIFT_WEEKDAYS + 3) % 7) + 1;
        }

        /** The Thursday of a day's week: its year is the week year. */
        static long thursdayOf(long day) {
            return day - weekdayOf(day) + 4;
        }

        static int weekYearOf(long day) {
            return yearOf(thursdayOf(day));
        }

        static int weekOf(long day) {
            long thursday = thursdayOf(day);
            return (int) (thursday - yearStart(yearOf(thursday))) / 7 + 1;
        }

        static int weeksOf(int weekYear) {
            int weekday = weekdayOf(yearStart(weekYear));
            return weekday == 4 || weekday == 3 && isLeapYear(weekYear) ? 53 : 52;
        }

        static long weekStart(int weekYear, int week) {
            // The 4th of January is always in week 1.
            long fourth = yearStart(weekYear) + 3;
            return fourth - weekdayOf(fourth) + 1 + 7L * (week - 1);
        }

        /** The reckoning of Meeus, Jones and Butcher. */
        static long easterOf(int year) {
            int golden = year % 19;
            int century = year / 100;
            int leapCenturies = century / 4;
            int moonShift = (century - (century + 8) / 25 + 1) / 3;
            int epact = (19 * golden + century - leapCenturies - moonShift + 15) % 30;
            int inCentury = year % 100;
            int toSunday = (32 + 2 * (century % 4) + 2 * (inCentury / 4) - epact - inCentury % 4) % 7;
            int late = (golden + 11 * epact + 22 * toSunday) / 451;
            int sum = epact + toSunday - 7 * late + 114;
            return numberOf(year, sum / 31, sum % 31 + 1);
        }
    }

    /** The leap days, and what they make of minutes and seconds. */
    private static final class Leaps {
        static final int MOST = 40;

        final long[] days = new long[MOST];
        int count = 0;

        boolean has(long day) {
            for (int i = 0; i < count; i++) {
                if (days[i] == day) {
                    return true;
                }
            }
            return false;
        }

        boolean isFull() {
            return count >= MOST;
        }

        int add(long day) {
            if (count < MOST) {
                days[count] = day;
                count++;
            }
            return count;
        }

        /** The leap seconds from day 0 to a day's beginning; below 0 before day 0. */
        int secondsTo(long day) {
            int seconds = 0;
            for (int i = 0; i < count; i++) {
                if (days[i] >= 0 && days[i] < day) {
                    seconds++;
                } else if (days[i] < 0 && days[i] >= day) {
                    seconds--;
                }
            }
            return seconds;
        }

        long startOf(long day) {
            return day * DAY_SECONDS + secondsTo(day);
        }

        boolean holds(long instant) {
            return instant >= startOf(Days.LEAST_DAY) && instant < startOf(Days.MOST_DAY + 1);
        }

        int lastSecondOf(long minute) {
            long day = Math.floorDiv(minute, DAY_MINUTES);
            return minute - day * DAY_MINUTES == DAY_MINUTES - 1 && has(day) ? 60 : 59;
        }

        long instantOf(long minute, int second) {
            return minute * 60 + second + secondsTo(Math.floorDiv(minute, DAY_MINUTES));
        }

        long minuteAt(long instant) {
            // All leap seconds together are far less than a day: so at most one day off.
            long day = Math.floorDiv(instant, DAY_SECONDS);
            if (startOf(day) > instant) {
                day--;
            } else if (startOf(day + 1) <= instant) {
                day++;
            }
            // Second 60 of the last minute would else be counted as minute 1440 of its day.
            return day * DAY_MINUTES + Math.min((instant - startOf(day)) / 60, DAY_MINUTES - 1);
        }

        int secondAt(long instant) {
            return (int) (instant - instantOf(minuteAt(instant), 0));
        }
    }

    /** A zone: a first offset, a table of changes, and perhaps a rule for what comes behind them. */
    private static final class Zone {
        final int first;
        final Leaps leaps;
        final long[] instants = new long[MOST_CHANGES];
        final int[] offsets = new int[MOST_CHANGES];
        int count = 0;
        final Rule rule = new Rule();

        Zone(int first, Leaps leaps) {
            this.first = first;
            this.leaps = leaps;
        }

        boolean isFull() {
            return count >= MOST_CHANGES;
        }

        boolean isBehindChanges(long instant) {
            return count < 1 || count > MOST_CHANGES || instant > instants[count - 1];
        }

        int add(long instant, int offset) {
            if (count < MOST_CHANGES) {
                instants[count] = instant;
                offsets[count] = offset;
                count++;
            }
            return count;
        }

        boolean isByRule(long instant) {
            return rule.names > 0
                    && (count < 1 || count > MOST_CHANGES || instant >= instants[count - 1]);
        }

        int offsetAt(long instant) {
            if (isByRule(instant)) {
                return rule.offsetAt(leaps.minuteAt(instant));
            }
            int offset = first;
            for (int i = 0; i < count && instants[i] <= instant; i++) {
                offset = offsets[i];
            }
            return offset;
        }

        int offsetToTry(int i) {
            if (i < count && i < MOST_CHANGES) {
                return i < 0 ? first : offsets[i];
            }
            return i == count ? rule.first : rule.second;
        }

        /** Fills in the INSTANTS of a local minute and second, rising: how many. */
        int collect(long minute, int second, long[] found) {
            int size = 0;
            for (int i = -1; i < count + rule.names; i++) {
                int offset = offsetToTry(i);
                long utc = minute - offset;
                if (!Days.holdsMinute(utc) || second > leaps.lastSecondOf(utc)) {
                    continue;
                }
                long instant = leaps.instantOf(utc, second);
                if (offsetAt(instant) == offset) {
                    size = insert(instant, found, size);
                }
            }
            return size;
        }

        static int insert(long instant, long[] found, int size) {
            if (size < 0 || size >= found.length) {
                return size;
            }
            int place = 0;
            while (place < size && found[place] < instant) {
                place++;
            }
            if (place < size && found[place] == instant) {
                return size;
            }
            for (int i = size; i > place; i--) {
                found[i] = found[i - 1];
            }
            found[place] = instant;
            return size + 1;
        }

        /** The least instant above one at which the offset becomes another; NONE: there is none for years. */
        long changeBehind(long instant) {
            int before = first;
            for (int i = 0; i < count; i++) {
                boolean isRuled = rule.names > 0 && i == count - 1;
                int behind = isRuled ? rule.offsetAt(leaps.minuteAt(instants[i])) : offsets[i];
                if (instants[i] > instant && behind != before) {
                    return instants[i];
                }
                before = behind;
            }
            if (rule.names < 1) {
                return NONE;
            }
            long start = count > 0 && count <= MOST_CHANGES ? Math.max(instant, instants[count - 1]) : instant;
            long minute = rule.changeBehind(leaps.minuteAt(start));
            return minute == NONE || !Days.holdsMinute(minute) ? NONE : leaps.instantOf(minute, 0);
        }
    }

    /** A rule for all years. Its minutes are kept for the year that was asked about last. */
    private static final class Rule {
        /** More years than the 2000 days of next() can touch. */
        static final int YEARS_TO_SEARCH = 8;

        int names = 0;
        int first = 0;
        int second = 0;
        final RuleDate from = new RuleDate();
        final RuleDate to = new RuleDate();

        boolean turned = false;
        int year = 0;
        long yearMinute = 0;
        long yearEndMinute = 0;
        long fromMinute = 0;
        long toMinute = 0;

        void copy(Rule other) {
            names = other.names;
            first = other.first;
            second = other.second;
            from.copy(other.from);
            to.copy(other.to);
            turned = false;
        }

        /** Reads a rule: NONE, or the place of its FAULT. */
        long scan(Cursor c) {
            c.start();
            names = 1;
            scanName(c);
            int sign = scanSign(c);
            int hoursAt = c.at;
            first = -sign * c.clock(23);
            second = first;
            if (!c.atEnd()) {
                names = 2;
                scanName(c);
                scanSecondOffset(c, hoursAt);
                c.need(',');
                from.scan(c);
                c.need(',');
                to.scan(c);
            }
            c.needEnd();
            return c.verdict();
        }

        static void scanName(Cursor c) {
            boolean quoted = c.take('<');
            int size = 0;
            for (int i = 0; i < 8 && (c.atLetter() || quoted && c.atNameSign()); i++) {
                c.skip();
                size++;
            }
            if (size < 3) {
                c.fail();
            }
            if (quoted) {
                c.need('>');
            }
        }

        /** 1, or -1 behind a minus. */
        static int scanSign(Cursor c) {
            if (c.take('-')) {
                return -1;
            }
            c.take('+');
            return 1;
        }

        void scanSecondOffset(Cursor c, int firstHoursAt) {
            if (c.isAt('+') || c.isAt('-') || c.atDigit()) {
                int sign = scanSign(c);
                second = -sign * c.clock(23);
                return;
            }
            second = first + 60;
            if (second > MOST_OFFSET) {
                c.blame(firstHoursAt);
            }
        }

        void turnTo(int asked) {
            if (turned && year == asked) {
                return;
            }
            long start = Days.yearStart(asked);
            boolean leapYear = Days.isLeapYear(asked);
            year = asked;
            yearMinute = start * DAY_MINUTES - first;
            yearEndMinute = yearMinute + (leapYear ? 366 : 365) * DAY_MINUTES;
            fromMinute = from.minuteOf(start, leapYear) - first;
            toMinute = to.minuteOf(start, leapYear) - second;
            turned = true;
        }

        int offsetAt(long minute) {
            if (names < 2) {
                return first;
            }
            turnTo(Days.yearOf(Math.floorDiv(minute + first, DAY_MINUTES)));
            return offsetInYear(minute);
        }

        /** The offset at a minute of the year that was turned to. */
        int offsetInYear(long minute) {
            boolean isBehindFrom = minute >= fromMinute;
            boolean isBeforeTo = minute < toMinute;
            boolean counts = fromMinute < toMinute ? isBehindFrom && isBeforeTo : isBehindFrom || isBeforeTo;
            return counts ? second : first;
        }

        /** The first minute above one with another offset than just before; NONE: none for some years. */
        long changeBehind(long minute) {
            if (names < 2) {
                return NONE;
            }
            int startYear = Days.yearOf(Math.floorDiv(minute + first, DAY_MINUTES));
            turnTo(startYear);
            int before = offsetInYear(minute);
            for (int i = 0; i < YEARS_TO_SEARCH; i++) {
                turnTo(startYear + i);
                // A year's own beginning is an edge too: the two dates can come in another order in it.
                for (int edge = 0; edge < 3; edge++) {
                    long at = edgeOf(edge);
                    boolean isNew = at > minute && at >= yearMinute && at < yearEndMinute;
                    if (isNew && offsetInYear(at) != before) {
                        return at;
                    }
                }
            }
            return NONE;
        }

        long edgeOf(int edge) {
            if (edge == 0) {
                return yearMinute;
            }
            return edge == 1 ? Math.min(fromMinute, toMinute) : Math.max(fromMinute, toMinute);
        }
    }

    /** A day and time of each year. */
    private static final class RuleDate {
        static final int BY_MONTH = 0;
        static final int WITHOUT_29TH = 1;
        static final int COUNTED = 2;

        int kind = 0;
        int number = 0;
        int week = 0;
        int weekday = 0;
        int minute = 0;

        void copy(RuleDate other) {
            kind = other.kind;
            number = other.number;
            week = other.week;
            weekday = other.weekday;
            minute = other.minute;
        }

        void scan(Cursor c) {
            if (c.take('M')) {
                kind = BY_MONTH;
                number = c.numberIn(1, 2, 1, 12);
                c.need('.');
                week = c.numberIn(1, 1, 1, 5);
                c.need('.');
                weekday = c.numberIn(1, 1, 0, 6);
            } else if (c.take('J')) {
                kind = WITHOUT_29TH;
                number = c.numberIn(1, 3, 1, 365);
            } else {
                kind = COUNTED;
                number = c.numberIn(1, 3, 0, 365);
            }
            minute = c.take('/') ? c.clock(24) : 120;
        }

        /** The minute of local time in the year that begins with a day. */
        long minuteOf(long yearStart, boolean leapYear) {
            int place = number;
            if (kind == WITHOUT_29TH) {
                place = leapYear && number >= 60 ? number : number - 1;
            } else if (kind == COUNTED) {
                place = leapYear || number < 365 ? number : 364;
            } else if (number >= 1 && number <= 12) {
                int before = Days.BEFORE_MONTH[number - 1] + (leapYear && number > 2 ? 1 : 0);
                int behind = Days.BEFORE_MONTH[number] + (leapYear && number >= 2 ? 1 : 0);
                // Weekdays are counted from Sunday here: day 0 is a 4.
                int startWeekday = (int) ((yearStart + before + Days.SHIFT_WEEKDAYS + 4) % 7);
                place = before + (weekday - startWeekday + 7) % 7 + 7 * (week - 1);
                place = place < behind ? place : place - 7;
            }
            return (yearStart + place) * DAY_MINUTES + minute;
        }
    }

    /** The TEXT, and a place in it that goes on as long as some text of the form that is read goes on so. */
    private static final class Cursor {
        final byte[] bytes = new byte[MOST_BYTES];
        int length = 0;
        int at = 0;
        boolean broken = false;
        /** The first number that can not be; it only counts if the whole text is not broken. */
        int wrong = -1;

        void append(byte value) {
            if (length >= 0 && length < bytes.length) {
                bytes[length] = value;
                length++;
            }
        }

        void start() {
            at = 0;
            broken = false;
            wrong = -1;
        }

        /** The byte at the place; -1 at the end, and for good once the text is broken. */
        int look() {
            return broken || at < 0 || at >= length || at >= bytes.length ? -1 : bytes[at] & 255;
        }

        boolean isAt(int wanted) {
            return look() == wanted;
        }

        boolean atEnd() {
            return !broken && at >= length;
        }

        boolean atDigit() {
            return digit() >= 0;
        }

        /** The digit at the place; -1: there is none. */
        int digit() {
            if (broken || at < 0 || at >= length || at >= bytes.length) {
                return -1;
            }
            int value = bytes[at] - '0';
            return value < 0 || value > 9 ? -1 : value;
        }

        boolean atLetter() {
            int c = look();
            return c >= 'A' && c <= 'Z' || c >= 'a' && c <= 'z';
        }

        /** What the name of a zone can have between < and > beside letters. */
        boolean atNameSign() {
            return atDigit() || isAt('+') || isAt('-');
        }

        void skip() {
            at++;
        }

        boolean take(int wanted) {
            if (look() != wanted) {
                return false;
            }
            at++;
            return true;
        }

        void need(int wanted) {
            if (!take(wanted)) {
                broken = true;
            }
        }

        void needEnd() {
            if (!atEnd()) {
                broken = true;
            }
        }

        void fail() {
            broken = true;
        }

        long blame(int place) {
            if (wrong < 0) {
                wrong = place;
            }
            return NONE;
        }

        boolean isGood() {
            return !broken && wrong < 0;
        }

        long verdict() {
            if (broken) {
                return at;
            }
            return wrong < 0 ? NONE : wrong;
        }

        /** A number of so many digits, nine at most. */
        int number(int least, int most) {
            int value = 0;
            for (int i = 0; i < most; i++) {
                int digit = digit();
                if (digit < 0) {
                    broken = broken || i < least;
                    return value;
                }
                value = value * 10 + digit;
                at++;
            }
            return value;
        }

        int numberIn(int leastDigits, int mostDigits, int least, int most) {
            int place = at;
            int value = number(leastDigits, mostDigits);
            if (value < least || value > most) {
                blame(place);
            }
            return value;
        }

        /** The digits of a part as billionths; those behind the ninth do not count. */
        int part() {
            if (!atDigit()) {
                broken = true;
            }
            int value = 0;
            int size = 0;
            for (int i = 0; i < MOST_BYTES && atDigit(); i++) {
                if (size < 9) {
                    value = value * 10 + digit();
                    size++;
                }
                at++;
            }
            for (int i = size; i < 9; i++) {
                value *= 10;
            }
            return value;
        }

        /** The minutes of a rule's time without its sign. */
        int clock(int mostHours) {
            int minutes = 60 * numberIn(1, 2, 0, mostHours);
            return take(':') ? minutes + numberIn(2, 2, 0, 59) : minutes;
        }
    }

    /** A DATE as it was told. */
    private static final class DateText {
        static final int MONTH_AND_DAY = 0;
        static final int WEEK_AND_DAY = 1;
        static final int ORDINAL = 2;
        static final int YEAR = 3;
        static final int MONTH = 4;
        static final int WEEK = 5;

        int kind = 0;
        boolean dashed = false;
        int yearAt = 0;
        boolean signed = false;
        boolean negative = false;
        int year = 0;
        /** The month, week or ordinal. */
        int middleAt = 0;
        int middle = 1;
        /** The day of the month or week. */
        int lastAt = 0;
        int last = 1;

        void scan(Cursor c, boolean whole) {
            middle = 1;
            last = 1;
            scanYear(c);
            dashed = c.take('-');
            // Behind a year of six digits nothing goes on without a dash.
            boolean goesOn = dashed || !signed;
            if (goesOn && c.take('W')) {
                scanWeek(c, whole);
            } else if (dashed) {
                scanDashed(c, whole);
            } else if (goesOn && c.atDigit()) {
                scanPlain(c);
            } else {
                endShort(c, YEAR, whole);
            }
        }

        /** YYYY-MM-DD alone, as RFC 3339 has it. */
        void scanFull(Cursor c) {
            kind = MONTH_AND_DAY;
            negative = false;
            year = c.number(4, 4);
            c.need('-');
            middleAt = c.at;
            middle = c.number(2, 2);
            c.need('-');
            lastAt = c.at;
            last = c.number(2, 2);
        }

        void scanYear(Cursor c) {
            yearAt = c.at;
            negative = c.take('-');
            signed = negative || c.take('+');
            int digits = signed ? 6 : 4;
            year = c.number(digits, digits);
        }

        void scanDashed(Cursor c, boolean whole) {
            middleAt = c.at;
            middle = c.number(2, 2);
            if (c.take('-')) {
                kind = MONTH_AND_DAY;
                lastAt = c.at;
                last = c.number(2, 2);
            } else if (c.atDigit()) {
                kind = ORDINAL;
                middle = middle * 10 + c.number(1, 1);
            } else {
                endShort(c, MONTH, whole);
            }
        }

        void scanWeek(Cursor c, boolean whole) {
            middleAt = c.at;
            middle = c.number(2, 2);
            if (dashed ? c.take('-') : c.atDigit()) {
                kind = WEEK_AND_DAY;
                lastAt = c.at;
                last = c.number(1, 1);
            } else {
                endShort(c, WEEK, whole);
            }
        }

        void scanPlain(Cursor c) {
            middleAt = c.at;
            lastAt = c.at + 2;
            int digits = c.number(3, 3);
            if (c.atDigit()) {
                kind = MONTH_AND_DAY;
                digits = digits * 10 + c.number(1, 1);
                middle = digits / 100;
                last = digits % 100;
            } else {
                kind = ORDINAL;
                middle = digits;
            }
        }

        void endShort(Cursor c, int shortKind, boolean whole) {
            kind = shortKind;
            if (whole) {
                c.fail();
            }
        }

        /** The DAY that was told; NONE if a number can not be, and that is blamed. */
        long settle(Cursor c) {
            if (!c.isGood()) {
                return NONE;
            }
            if (negative && year == 0) {
                return c.blame(yearAt);
            }
            int told = negative ? -year : year;
            if (kind == WEEK_AND_DAY || kind == WEEK) {
                return settleWeek(c, told);
            }
            if (kind == ORDINAL) {
                boolean isOne = middle >= 1 && middle <= Days.yearLength(told);
                return isOne ? Days.yearStart(told) + middle - 1 : c.blame(middleAt);
            }
            if (middle < 1 || middle > 12) {
                return c.blame(middleAt);
            }
            boolean isOne = last >= 1 && last <= Days.monthLength(told, middle);
            return isOne ? Days.numberOf(told, middle, last) : c.blame(lastAt);
        }

        long settleWeek(Cursor c, int told) {
            if (middle < 1 || middle > Days.weeksOf(told)) {
                return c.blame(middleAt);
            }
            if (last < 1 || last > 7) {
                return c.blame(lastAt);
            }
            long day = Days.weekStart(told, middle) + last - 1;
            return Days.holds(day) ? day : c.blame(yearAt);
        }
    }

    /** A TIME as it was told. */
    private static final class TimeText {
        /** Whether minutes come behind a colon: both are free, always, or never. */
        static final int FREE = 0;
        static final int COLONS = 1;
        static final int PLAIN = 2;

        int hoursAt = 0;
        int hours = 0;
        int minutesAt = 0;
        int minutes = 0;
        int secondsAt = 0;
        int seconds = 0;
        int part = 0;
        /** How many seconds the part is a part of. */
        int unit = 1;

        /** What field() tells of the offset: 0, 1 or 2; -1: none was told. */
        int manner = -1;
        boolean negative = false;
        int offsetHoursAt = 0;
        int offsetHours = 0;
        int offsetMinutesAt = 0;
        int offsetMinutes = 0;

        void start(Cursor c) {
            minutes = 0;
            seconds = 0;
            part = 0;
            manner = -1;
            negative = false;
            offsetHours = 0;
            offsetMinutes = 0;
            hoursAt = c.at;
            hours = c.number(2, 2);
        }

        void scan(Cursor c, int marks) {
            start(c);
            int found = marks;
            unit = 3600;
            if (marks != PLAIN && c.take(':')) {
                found = COLONS;
                scanMinutes(c);
                if (c.take(':')) {
                    scanSeconds(c);
                }
            } else if (marks != COLONS && c.atDigit()) {
                found = PLAIN;
                scanMinutes(c);
                if (c.atDigit()) {
                    scanSeconds(c);
                }
            }
            if (c.take('.') || c.take(',')) {
                part = c.part();
            }
            if (c.take('Z')) {
                manner = 1;
            } else if (c.isAt('+') || c.isAt('-')) {
                scanOffset(c);
                if (found != PLAIN && c.take(':') || found != COLONS && c.atDigit()) {
                    scanOffsetMinutes(c);
                }
            }
        }

        /** hh:mm:ss with its offset, as RFC 3339 has it. */
        void scanFull(Cursor c) {
            start(c);
            c.need(':');
            scanMinutes(c);
            c.need(':');
            scanSeconds(c);
            if (c.take('.')) {
                part = c.part();
            }
            if (c.take('Z') || c.take('z')) {
                manner = 1;
            } else if (c.isAt('+') || c.isAt('-')) {
                scanOffset(c);
                c.need(':');
                scanOffsetMinutes(c);
            } else {
                c.fail();
            }
        }

        void scanMinutes(Cursor c) {
            unit = 60;
            minutesAt = c.at;
            minutes = c.number(2, 2);
        }

        void scanSeconds(Cursor c) {
            unit = 1;
            secondsAt = c.at;
            seconds = c.number(2, 2);
        }

        void scanOffset(Cursor c) {
            manner = 0;
            negative = c.isAt('-');
            c.skip();
            offsetHoursAt = c.at;
            offsetHours = c.number(2, 2);
        }

        void scanOffsetMinutes(Cursor c) {
            offsetMinutesAt = c.at;
            offsetMinutes = c.number(2, 2);
        }

        /** 0 if none was told. */
        int offsetTold() {
            int minutesTold = offsetHours * 60 + offsetMinutes;
            return negative ? -minutesTold : minutesTold;
        }

        int mannerTold() {
            return negative && offsetTold() == 0 ? 2 : manner;
        }

        /** Blames the first number that can not be; the day is NONE of a TIME without one. */
        void settle(Cursor c, long day, Leaps leaps) {
            boolean isOffsetGood = offsetHours <= 23 && offsetMinutes <= 59;
            int lastSecond = 59;
            if (isOffsetGood && day != NONE) {
                lastSecond = leaps.lastSecondOf(day * DAY_MINUTES + hours * 60 + minutes - offsetTold());
            }
            boolean isElseNothing = minutes == 0 && seconds == 0 && part == 0;
            if (hours > 24 || hours == 24 && (!isElseNothing || day == Days.MOST_DAY)) {
                c.blame(hoursAt);
            } else if (minutes > 59) {
                c.blame(minutesAt);
            } else if (seconds > lastSecond) {
                c.blame(secondsAt);
            } else if (offsetHours > 23) {
                c.blame(offsetHoursAt);
            } else if (offsetMinutes > 59) {
                c.blame(offsetMinutesAt);
            }
        }

        /** The part, told of hours, minutes or seconds, as nanoseconds. */
        long partNanos() {
            return (long) part * unit;
        }

        /** 1440 of hours 24. */
        int minuteOfDay() {
            return hours * 60 + minutes + (int) (partNanos() / NANOS_OF_SECOND / 60);
        }

        int secondOfMinute() {
            return seconds + (int) (partNanos() / NANOS_OF_SECOND % 60);
        }
    }

    /** A DURATION as it was told. */
    private static final class DurationText {
        static final int DAYS = 2;
        static final int SECONDS = 5;
        static final char[] LETTERS = {'Y', 'M', 'D', 'H', 'M', 'S'};
        /** What one of each letter is: months for the first two, else seconds. */
        static final int[] UNITS = {12, 1, 86400, 3600, 60, 1};

        long months = 0;
        long days = 0;
        long seconds = 0;
        long nanos = 0;
        /** Behind weeks, and behind a number with a part, nothing can come. */
        boolean ended = false;

        void scan(Cursor c) {
            months = 0;
            days = 0;
            seconds = 0;
            nanos = 0;
            ended = false;
            c.need('P');
            boolean isOpen = true;
            int rank = 0;
            int last = DAYS;
            for (int i = 0; i <= LETTERS.length && !ended; i++) {
                if (rank <= last && c.atDigit()) {
                    rank = scanNumber(c, rank, last) + 1;
                    isOpen = false;
                } else if (last == DAYS && c.take('T')) {
                    rank = DAYS + 1;
                    last = SECONDS;
                    isOpen = true;
                } else {
                    break;
                }
            }
            if (isOpen) {
                c.fail();
            }
        }

        /** A number with its letter, one of those from a rank to another: that letter's rank. */
        int scanNumber(Cursor c, int first, int last) {
            int value = c.number(1, 9);
            int partAt = c.at;
            int part = 0;
            if (c.take('.') || c.take(',')) {
                ended = true;
                part = c.part();
            }
            if (first == 0 && !ended && c.take('W')) {
                ended = true;
                days = 7L * value;
                return last;
            }
            for (int rank = first; rank <= last && rank < LETTERS.length; rank++) {
                if (c.take(LETTERS[rank])) {
                    add(c, rank, value, part, partAt);
                    return rank;
                }
            }
            c.fail();
            return last;
        }

        void add(Cursor c, int rank, int value, int part, int partAt) {
            if (rank < 0 || rank >= UNITS.length) {
                return;
            }
            long unit = UNITS[rank];
            if (rank < DAYS) {
                months += value * unit;
                if (part != 0) {
                    c.blame(partAt);
                }
                return;
            }
            if (rank == DAYS) {
                days = value;
            } else {
                seconds += value * unit;
            }
            seconds += part * unit / NANOS_OF_SECOND;
            nanos = part * unit % NANOS_OF_SECOND;
        }
    }

    /** Reads the TEXT as one of the forms into fields that count only if there is no FAULT. */
    private static final class FormReader {
        static final int STAMP = 0;
        static final int DATE = 1;
        static final int TIME = 2;
        static final int MOMENT = 3;
        static final int DURATION = 4;

        final Cursor c;
        final Leaps leaps;
        final DateText date = new DateText();
        final TimeText time = new TimeText();
        final DurationText duration = new DurationText();
        final long[] staged = new long[PARTS * WHATS];

        FormReader(Cursor c, Leaps leaps) {
            this.c = c;
            this.leaps = leaps;
        }

        void start() {
            c.start();
            Arrays.fill(staged, NONE);
        }

        void scanStamp() {
            date.scanFull(c);
            if (!c.take('T') && !c.take('t')) {
                c.need(' ');
            }
            time.scanFull(c);
            stageMoment(0, STAMP, date.settle(c));
        }

        void scanDate() {
            date.scan(c, false);
            put(0, 0, DATE);
            put(0, 1, date.kind);
            put(0, 2, date.settle(c));
        }

        void scanTime() {
            c.take('T');
            time.scan(c, TimeText.FREE);
            stageTime(0, TIME, NONE);
        }

        void scanMoment(int part) {
            date.scan(c, true);
            c.need('T');
            time.scan(c, date.dashed ? TimeText.COLONS : TimeText.PLAIN);
            stageMoment(part, MOMENT, date.settle(c));
        }

        void scanDuration(int part) {
            duration.scan(c);
            put(part, 0, DURATION);
            put(part, 9, duration.months);
            put(part, 10, duration.days);
            put(part, 11, duration.seconds);
            put(part, 12, duration.nanos);
        }

        void scanInterval() {
            boolean isDurationFirst = c.isAt('P');
            if (isDurationFirst) {
                scanDuration(0);
            } else {
                scanMoment(0);
            }
            c.need('/');
            if (!isDurationFirst && c.isAt('P')) {
                scanDuration(1);
            } else {
                scanMoment(1);
            }
        }

        /** How often an interval is repeated, with the slash behind it. */
        void scanCount() {
            c.need('R');
            if (c.atDigit()) {
                put(2, 0, c.number(1, 9));
            }
            c.need('/');
        }

        void stageMoment(int part, int form, long day) {
            if (day == NONE) {
                return;
            }
            stageTime(part, form, day);
            int minute = time.minuteOfDay();
            put(part, 1, date.kind);
            put(part, 2, minute < DAY_MINUTES ? day : day + 1);
            long utc = day * DAY_MINUTES + minute - time.offsetTold();
            if (time.manner >= 0 && Days.holdsMinute(utc)) {
                put(part, 8, leaps.instantOf(utc, time.secondOfMinute()));
            }
        }

        void stageTime(int part, int form, long day) {
            time.settle(c, day, leaps);
            int minute = time.minuteOfDay();
            put(part, 0, form);
            put(part, 3, minute < DAY_MINUTES ? minute : 0);
            put(part, 4, time.secondOfMinute());
            put(part, 5, time.partNanos() % NANOS_OF_SECOND);
            if (time.manner >= 0) {
                put(part, 6, time.offsetTold());
                put(part, 7, time.mannerTold());
            }
        }

        void put(int part, int what, long value) {
            int place = part * WHATS + what;
            if (place >= 0 && place < staged.length) {
                staged[place] = value;
            }
        }
    }

    /** OUT. */
    private static final class Writer {
        final byte[] bytes = new byte[MOST_BYTES];
        int length = 0;

        static boolean isPlainYear(int year) {
            return year >= 0 && year <= 9999;
        }

        void start() {
            length = 0;
        }

        void put(int value) {
            if (length >= 0 && length < bytes.length) {
                bytes[length] = (byte) value;
                length++;
            }
        }

        void putDash(boolean dashed) {
            if (dashed) {
                put('-');
            }
        }

        /** A number in so many digits. */
        void putDigits(long value, int digits) {
            if (length < 0 || digits < 0 || digits > bytes.length - length) {
                return;
            }
            long rest = value;
            for (int i = length + digits - 1; i >= length; i--) {
                bytes[i] = (byte) ('0' + rest % 10);
                rest /= 10;
            }
            length += digits;
        }

        /** A number in as few digits as it has. */
        void putNumber(long value) {
            int digits = 1;
            for (long rest = value / 10; rest > 0 && digits < 19; rest /= 10) {
                digits++;
            }
            putDigits(value, digits);
        }

        void putYear(int year) {
            if (isPlainYear(year)) {
                putDigits(year, 4);
            } else {
                put(year < 0 ? '-' : '+');
                putDigits(Math.abs(year), 6);
            }
        }

        void putMonthAndDay(long day, boolean dashed) {
            putDash(dashed);
            putDigits(Days.monthOf(day), 2);
            putDash(dashed);
            putDigits(Days.dayOfMonth(day), 2);
        }

        void putOrdinal(int ordinal, boolean dashed) {
            putDash(dashed);
            putDigits(ordinal, 3);
        }

        void putWeek(long day, boolean dashed) {
            putDash(dashed);
            put('W');
            putDigits(Days.weekOf(day), 2);
            putDash(dashed);
            putDigits(Days.weekdayOf(day), 1);
        }

        void putTime(int minute, int second) {
            put('T');
            putDigits(minute / 60, 2);
            put(':');
            putDigits(minute % 60, 2);
            put(':');
            putDigits(second, 2);
        }

        void putPart(int nanos, int digits) {
            if (digits == 0) {
                return;
            }
            int rest = nanos;
            for (int i = digits; i < 9; i++) {
                rest /= 10;
            }
            put('.');
            putDigits(rest, digits);
        }

        void putOffset(int offset) {
            if (offset == 0) {
                put('Z');
                return;
            }
            int size = Math.abs(offset);
            put(offset < 0 ? '-' : '+');
            putDigits(size / 60, 2);
            put(':');
            putDigits(size % 60, 2);
        }

        /** A number of a duration with its letter; nothing of 0. */
        void putCount(long count, char letter) {
            if (count > 0) {
                putNumber(count);
                put(letter);
            }
        }

        void putSeconds(long seconds, int nanos) {
            // Only the T before it: then the seconds are all that tells a duration of nothing.
            boolean isAlone = length == 2;
            if (seconds == 0 && nanos == 0 && !isAlone) {
                return;
            }
            putNumber(seconds);
            if (nanos > 0) {
                int digits = 9;
                for (int rest = nanos; rest % 10 == 0 && digits > 1; rest /= 10) {
                    digits--;
                }
                putPart(nanos, digits);
            }
            put('S');
        }
    }
}
