import java.time.DateTimeException;
import java.time.LocalDate;
import java.time.temporal.ChronoUnit;
import java.time.temporal.IsoFields;
import java.util.Random;

/** Promises 2 to 6, against java.time and another reckoning of Easter. */
public final class DaysTest {
    private static final LocalDate FIRST = LocalDate.of(-999999, 1, 1);
    private static final LocalDate LAST = LocalDate.of(999999, 12, 31);

    public static void main(String[] args) {
        for (long day = FIRST.toEpochDay(); day < FIRST.toEpochDay() + 800; day++) {
            everyPart(day);
        }
        for (long day = LAST.toEpochDay() - 800; day <= LAST.toEpochDay(); day++) {
            everyPart(day);
        }
        for (long day = -720500; day < 60000; day += 7) {
            everyPart(day);
        }
        for (long day = -900; day < 20900; day++) {
            everyPart(day);
        }
        Random random = new Random(1);
        for (int i = 0; i < 20000; i++) {
            long day = FIRST.toEpochDay() + (long) (random.nextDouble() * 730484633);
            everyPart(day);
            monthsLater(day, random.nextInt(i % 2 == 0 ? 100 : 24000000) - (i % 2 == 0 ? 50 : 12000000));
        }
        dates();
        weekDays();
        lastDays();
        wrongOnes();
        easters();
        Check.end();
    }

    private static void everyPart(long day) {
        MomentTexts x = new MomentTexts();
        LocalDate date = LocalDate.ofEpochDay(day);
        String name = date.toString();
        Check.due(name, day, () -> x.day(date.getYear(), date.getMonthValue(), date.getDayOfMonth()));
        long[] want = {date.getYear(), date.getMonthValue(), date.getDayOfMonth(), date.getDayOfWeek().getValue(),
            date.getDayOfYear(), date.get(IsoFields.WEEK_BASED_YEAR), date.get(IsoFields.WEEK_OF_WEEK_BASED_YEAR),
            date.isLeapYear() ? 1 : 0, date.lengthOfMonth(),
            date.range(IsoFields.WEEK_OF_WEEK_BASED_YEAR).getMaximum()};
        for (int what = 0; what < want.length; what++) {
            int asked = what;
            Check.due(name + " date " + what, want[what], () -> x.date(day, asked));
        }
        Check.due(name + " by its week", day, () -> x.weekDay((int) want[5], (int) want[6], (int) want[3]));
        Check.illegal(name + " date -1", () -> x.date(day, -1));
        Check.illegal(name + " date 10", () -> x.date(day, 10));
    }

    private static void monthsLater(long day, int months) {
        MomentTexts x = new MomentTexts();
        LocalDate later = LocalDate.ofEpochDay(day).plus(months, ChronoUnit.MONTHS);
        boolean isOne = !later.isBefore(FIRST) && !later.isAfter(LAST);
        Check.due(day + " and " + months + " months", isOne ? later.toEpochDay() : Check.ILLEGAL,
            () -> x.months(day, months));
    }

    private static void dates() {
        int[] years = {-1000000, -999999, -400, -100, -4, -1, 0, 1, 4, 1900, 1999, 2000, 2024, 2100, 999999, 1000000,
            Integer.MIN_VALUE, Integer.MAX_VALUE};
        for (int year : years) {
            for (int month = -1; month <= 14; month++) {
                MomentTexts x = new MomentTexts();
                for (int day = -1; day <= 33; day++) {
                    int m = month;
                    int d = day;
                    Check.due(year + "-" + month + "-" + day, dayOf(year, month, day), () -> x.day(year, m, d));
                }
            }
        }
        MomentTexts x = new MomentTexts();
        Check.illegal("the least month", () -> x.day(2000, Integer.MIN_VALUE, 1));
        Check.illegal("the most month", () -> x.day(2000, Integer.MAX_VALUE, 1));
        Check.illegal("the least day", () -> x.day(2000, 1, Integer.MIN_VALUE));
        Check.illegal("the most day", () -> x.day(2000, 1, Integer.MAX_VALUE));
    }

    private static long dayOf(int year, int month, int day) {
        if (year < -999999 || year > 999999) {
            return Check.ILLEGAL;
        }
        try {
            return LocalDate.of(year, month, day).toEpochDay();
        } catch (DateTimeException e) {
            return Check.ILLEGAL;
        }
    }

    private static void weekDays() {
        for (int year = 1900; year < 2110; year++) {
            MomentTexts x = new MomentTexts();
            int weekYear = year;
            long weeks = LocalDate.of(year, 6, 1).range(IsoFields.WEEK_OF_WEEK_BASED_YEAR).getMaximum();
            Check.due(year + " week 53", weeks == 53 ? LocalDate.of(year, 12, 28).toEpochDay()
                - LocalDate.of(year, 12, 28).getDayOfWeek().getValue() + 2 : Check.ILLEGAL,
                () -> x.weekDay(weekYear, 53, 2));
            Check.illegal(year + " week 54", () -> x.weekDay(weekYear, 54, 1));
            Check.illegal(year + " week 0", () -> x.weekDay(weekYear, 0, 1));
            Check.illegal(year + " weekday 0", () -> x.weekDay(weekYear, 1, 0));
            Check.illegal(year + " weekday 8", () -> x.weekDay(weekYear, 1, 8));
        }
    }

    private static void lastDays() {
        MomentTexts x = new MomentTexts();
        Check.due("the last day", LAST.toEpochDay(), () -> x.weekDay(999999, 52, 5));
        Check.illegal("the day behind it", () -> x.weekDay(999999, 52, 6));
        Check.illegal("two days behind it", () -> x.weekDay(999999, 52, 7));
        Check.due("the first day", FIRST.toEpochDay(), () -> x.weekDay(-999999, 1, 1));
        Check.illegal("the day before it", () -> x.weekDay(-1000000, 52, 7));
        Check.illegal("a week year above", () -> x.weekDay(1000000, 1, 1));
        Check.illegal("the most week year", () -> x.weekDay(Integer.MAX_VALUE, 1, 1));
        Check.illegal("the least week year", () -> x.weekDay(Integer.MIN_VALUE, 1, 1));
        Check.illegal("the least week", () -> x.weekDay(2000, Integer.MIN_VALUE, 1));
        Check.illegal("the most weekday", () -> x.weekDay(2000, 1, Integer.MAX_VALUE));
    }

    private static void wrongOnes() {
        MomentTexts x = new MomentTexts();
        long[] outside = {FIRST.toEpochDay() - 1, LAST.toEpochDay() + 1, Long.MIN_VALUE, Long.MAX_VALUE};
        for (long day : outside) {
            for (int what = -1; what < 11; what++) {
                int asked = what;
                Check.illegal("date of " + day, () -> x.date(day, asked));
            }
            Check.illegal("months of " + day, () -> x.months(day, 0));
            Check.illegal("a month back of " + day, () -> x.months(day, day < 0 ? 1 : -1));
        }
        Check.due("31 January and a month", LocalDate.of(2023, 2, 28).toEpochDay(),
            () -> x.months(LocalDate.of(2023, 1, 31).toEpochDay(), 1));
        Check.due("no months", FIRST.toEpochDay(), () -> x.months(FIRST.toEpochDay(), 0));
        Check.illegal("a month before all", () -> x.months(FIRST.toEpochDay() + 30, -1));
        Check.illegal("a month behind all", () -> x.months(LAST.toEpochDay() - 30, 1));
        Check.illegal("the most months", () -> x.months(0, Integer.MAX_VALUE));
        Check.illegal("the least months", () -> x.months(0, Integer.MIN_VALUE));
        Check.due("all months", LocalDate.of(999999, 12, 1).toEpochDay(), () -> x.months(FIRST.toEpochDay(),
            1999999 * 12 - 1));
    }

    private static void easters() {
        for (int year = 0; year <= 999999; year += year < 12000 ? 1 : 37) {
            int asked = year;
            Check.due("Easter of " + year, easterOf(year), () -> new MomentTexts().easter(asked));
        }
        MomentTexts x = new MomentTexts();
        Check.due("the last Easter", easterOf(999999), () -> x.easter(999999));
        Check.illegal("Easter before 0", () -> x.easter(-1));
        Check.illegal("Easter behind all", () -> x.easter(1000000));
        Check.illegal("the least Easter", () -> x.easter(Integer.MIN_VALUE));
        Check.illegal("the most Easter", () -> x.easter(Integer.MAX_VALUE));
    }

    /** The reckoning of Clavius as Knuth tells it (TAOCP 1.3.2, exercise 14). */
    private static long easterOf(int year) {
        int golden = year % 19 + 1;
        int century = year / 100 + 1;
        int left = 3 * century / 4 - 12;
        int moon = (8 * century + 5) / 25 - 5;
        int sunday = 5 * year / 4 - left - 10;
        int epact = Math.floorMod(11 * golden + 20 + moon - left, 30);
        if (epact == 25 && golden > 11 || epact == 24) {
            epact++;
        }
        int full = 44 - epact;
        if (full < 21) {
            full += 30;
        }
        int day = full + 7 - Math.floorMod(sunday + full, 7);
        return LocalDate.of(year, 3, 1).toEpochDay() + day - 1;
    }
}
