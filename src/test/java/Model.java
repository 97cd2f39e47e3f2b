import java.time.DayOfWeek;
import java.time.LocalDate;
import java.time.temporal.TemporalAdjusters;
import java.util.ArrayList;
import java.util.List;
import java.util.TreeSet;
import java.util.regex.Matcher;
import java.util.regex.Pattern;

/**
 * Instants, zones and reckoning as the document's words have them, by trying out: slow, with java.time for the
 * calendar. Answers are Check.ILLEGAL where the document wants an IllegalArgumentException.
 */
final class Model {
    static final long FIRST_MINUTE = LocalDate.of(-999999, 1, 1).toEpochDay() * 1440;
    static final long LAST_MINUTE = LocalDate.of(999999, 12, 31).toEpochDay() * 1440 + 1439;

    private static final String NAME = "(?:[A-Za-z]{3,8}|<[A-Za-z0-9+-]{3,8}>)";
    private static final String DATE = "(M(\\d+)\\.(\\d)\\.(\\d)|J(\\d+)|(\\d+))(?:/(\\d+)(?::(\\d+))?)?";
    private static final Pattern RULE = Pattern.compile(NAME + "([+-]?)(\\d+)(?::(\\d+))?(?:" + NAME
        + "(?:([+-]?)(\\d+)(?::(\\d+))?)?," + DATE + "," + DATE + ")?");

    final TreeSet<Long> leaps = new TreeSet<>();
    final List<Zone> zones = new ArrayList<>();

    static final class Zone {
        int first;
        final List<Long> instants = new ArrayList<>();
        final List<Integer> offsets = new ArrayList<>();
        Matcher rule;
        int ruleFirst;
        int ruleSecond;
        private int year = Integer.MIN_VALUE;
        private long from;
        private long to;

        void rule(String text) {
            Matcher m = RULE.matcher(text);
            if (!m.matches()) {
                throw new IllegalStateException(text);
            }
            rule = m;
            year = Integer.MIN_VALUE;
            ruleFirst = -minutes(m, 1);
            ruleSecond = m.group(5) == null ? ruleFirst + 60 : -minutes(m, 4);
        }

        private static int minutes(Matcher m, int group) {
            int minutes = clock(m, group + 1);
            return m.group(group).equals("-") ? -minutes : minutes;
        }

        private static int clock(Matcher m, int group) {
            String more = m.group(group + 1);
            return Integer.parseInt(m.group(group)) * 60 + (more == null ? 0 : Integer.parseInt(more));
        }

        private static long dateMinute(Matcher m, int group, int year) {
            LocalDate date;
            if (m.group(group + 1) != null) {
                LocalDate first = LocalDate.of(year, Integer.parseInt(m.group(group + 1)), 1);
                int weekday = Integer.parseInt(m.group(group + 3));
                DayOfWeek day = DayOfWeek.of(weekday == 0 ? 7 : weekday);
                int week = Integer.parseInt(m.group(group + 2));
                date = first.with(week == 5 ? TemporalAdjusters.lastInMonth(day)
                    : TemporalAdjusters.dayOfWeekInMonth(week, day));
            } else if (m.group(group + 4) != null) {
                // 2001 has no 29th of February: its month and day are those of every year.
                date = LocalDate.ofYearDay(2001, Integer.parseInt(m.group(group + 4))).withYear(year);
            } else {
                LocalDate first = LocalDate.of(year, 1, 1);
                date = first.plusDays(Math.min(Integer.parseInt(m.group(group + 5)), first.lengthOfYear() - 1));
            }
            return date.toEpochDay() * 1440 + (m.group(group + 6) == null ? 120 : clock(m, group + 6));
        }

        /** The minute of UTC at which the second offset begins to count in a year. */
        long fromMinute(int asked) {
            return dateMinute(rule, 7, asked) - ruleFirst;
        }

        int offsetByRule(long minute) {
            if (rule.group(7) == null) {
                return ruleFirst;
            }
            int asked = LocalDate.ofEpochDay(Math.floorDiv(minute + ruleFirst, 1440L)).getYear();
            if (asked != year) {
                year = asked;
                from = dateMinute(rule, 7, year) - ruleFirst;
                to = dateMinute(rule, 15, year) - ruleSecond;
            }
            boolean second = to > from ? from <= minute && minute < to : !(to <= minute && minute < from);
            return second ? ruleSecond : ruleFirst;
        }
    }

    long instantOf(long minute, int second) {
        long day = Math.floorDiv(minute, 1440L);
        long instant = 60 * minute + second;
        for (long leap : leaps) {
            if (leap < day && leap >= 0) {
                instant++;
            }
            if (leap < 0 && leap >= day) {
                instant--;
            }
        }
        return instant;
    }

    int lastSecond(long minute) {
        return Math.floorMod(minute, 1440L) == 1439 && leaps.contains(Math.floorDiv(minute, 1440L)) ? 60 : 59;
    }

    static boolean holdsMinute(long minute) {
        return minute >= FIRST_MINUTE && minute <= LAST_MINUTE;
    }

    long first() {
        return instantOf(FIRST_MINUTE, 0);
    }

    long last() {
        return instantOf(LAST_MINUTE, lastSecond(LAST_MINUTE));
    }

    boolean holds(long instant) {
        return instant >= first() && instant <= last();
    }

    long minuteAt(long instant) {
        long minute = Math.floorDiv(instant, 60L) - 2;
        while (instantOf(minute + 1, 0) <= instant) {
            minute++;
        }
        return minute;
    }

    int secondAt(long instant) {
        return (int) (instant - instantOf(minuteAt(instant), 0));
    }

    int offsetAt(Zone zone, long instant) {
        int changes = zone.instants.size();
        if (zone.rule != null && (changes == 0 || instant >= zone.instants.get(changes - 1))) {
            return zone.offsetByRule(minuteAt(instant));
        }
        int offset = zone.first;
        for (int i = 0; i < changes; i++) {
            if (zone.instants.get(i) <= instant) {
                offset = zone.offsets.get(i);
            }
        }
        return offset;
    }

    /** By trying all the offsets that there are. */
    List<Long> instantsOf(Zone zone, long minute, int second) {
        List<Long> found = new ArrayList<>();
        for (int offset = 1439; offset >= -1439; offset--) {
            long utc = minute - offset;
            if (holdsMinute(utc) && second <= lastSecond(utc)
                    && offsetAt(zone, instantOf(utc, second)) == offset) {
                found.add(instantOf(utc, second));
            }
        }
        return found;
    }

    /** The same, faster: only the offsets that the zone has told. */
    List<Long> toldInstantsOf(Zone zone, long minute, int second) {
        TreeSet<Integer> offsets = new TreeSet<>(zone.offsets);
        offsets.addAll(List.of(zone.first, zone.rule == null ? 0 : zone.ruleFirst, zone.rule == null ? 0
            : zone.ruleSecond));
        List<Long> found = new ArrayList<>();
        for (int offset : offsets.descendingSet()) {
            long utc = minute - offset;
            if (holdsMinute(utc) && second <= lastSecond(utc)
                    && offsetAt(zone, instantOf(utc, second)) == offset) {
                found.add(instantOf(utc, second));
            }
        }
        return found;
    }

    /** The changes of offset from above an instant up to another one, by looking at every minute. */
    List<Long> changesIn(Zone zone, long above, long end) {
        TreeSet<Long> tried = new TreeSet<>(zone.instants);
        if (zone.rule != null) {
            for (long minute = minuteAt(above); minute <= minuteAt(end); minute++) {
                tried.add(instantOf(minute, 0));
            }
        }
        List<Long> found = new ArrayList<>();
        for (long instant : tried) {
            if (instant > above && instant <= end && holds(instant)
                    && offsetAt(zone, instant) != offsetAt(zone, instant - 1)) {
                found.add(instant);
            }
        }
        return found;
    }

    /** Whether a local reading comes before another one. */
    private static boolean isBefore(long minute, int second, long otherMinute, int otherSecond) {
        return minute < otherMinute || minute == otherMinute && second < otherSecond;
    }

    long plus(Zone zone, long instant, int months, int days) {
        long local = minuteAt(instant) + offsetAt(zone, instant);
        LocalDate date = LocalDate.ofEpochDay(Math.floorDiv(local, 1440L));
        LocalDate byMonths = date.plusMonths(months);
        LocalDate goalDate = byMonths.plusDays(days);
        for (LocalDate each : new LocalDate[] {date, byMonths, goalDate}) {
            if (Math.abs(each.getYear()) > 999999) {
                return Check.ILLEGAL;
            }
        }
        long goal = goalDate.toEpochDay() * 1440 + Math.floorMod(local, 1440L);
        List<Long> found = toldInstantsOf(zone, goal, secondAt(instant));
        if (!found.isEmpty()) {
            return found.get(0);
        }
        int second = Math.min(59, secondAt(instant));
        found = toldInstantsOf(zone, goal, second);
        return found.isEmpty() ? plusSkipped(zone, goal, second) : found.get(0);
    }

    private long plusSkipped(Zone zone, long goal, int second) {
        long start = instantOf(Math.max(goal - 1500, FIRST_MINUTE), 0) - 1;
        for (long change : changesIn(zone, start, instantOf(goal + 1500, 0))) {
            int before = offsetAt(zone, change - 1);
            boolean isUpTo = isBefore(minuteAt(change - 1) + before, secondAt(change - 1), goal, second);
            boolean isPast = isBefore(goal, second, minuteAt(change) + offsetAt(zone, change), secondAt(change));
            if (isUpTo && isPast) {
                return holdsMinute(goal - before) ? instantOf(goal - before, second) : Check.ILLEGAL;
            }
        }
        return Check.ILLEGAL;
    }

    /** Months, days and seconds, by trying more of each than there can be. */
    long[] between(Zone zone, long from, long to) {
        long[] found = new long[3];
        long apart = (to - from) / 86400;
        for (int months = 1; months <= apart / 28 + 2; months++) {
            long later = plus(zone, from, months, 0);
            if (later != Check.ILLEGAL && later <= to) {
                found[0] = months;
            }
        }
        for (int days = 1; days <= 40; days++) {
            long later = plus(zone, from, (int) found[0], days);
            if (later != Check.ILLEGAL && later <= to) {
                found[1] = days;
            }
        }
        found[2] = to - plus(zone, from, (int) found[0], (int) found[1]);
        return found;
    }
}
