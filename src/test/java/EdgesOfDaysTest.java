/** Promises 1 to 6, sentence by sentence: every edge that the document names, told without another reckoning. */
public final class EdgesOfDaysTest {
    private static final long FIRST_DAY = -365961662;
    private static final long LAST_DAY = 364522971;

    public static void main(String[] args) {
        promise1NewObject();
        promise1NothingShared();
        promise2Years();
        promise2MonthsAndDays();
        promise3Parts();
        promise3Wraps();
        promise3Refused();
        promise4Weeks();
        promise4Refused();
        promise5LastOfMonth();
        promise5Refused();
        promise6Easter();
        Check.end();
    }

    private static void promise1NewObject() {
        MomentTexts x = new MomentTexts();
        Check.same("NONE", Long.MIN_VALUE, MomentTexts.NONE);
        for (int zone = 0; zone < 8; zone++) {
            int asked = zone;
            Check.illegal("a new object has no zone " + zone, () -> x.offset(asked, 0));
        }
        Check.due("its TEXT is empty", 0, () -> x.type(0, 0));
        Check.due("its OUT is empty", Check.OUTSIDE, () -> x.out(0));
        Check.due("an empty OUT becomes the TEXT", 0, x::pass);
        Check.due("nothing to clear", 0, x::clear);
        for (int form = 0; form < 7; form++) {
            int asked = form;
            Check.due("the empty TEXT has its FAULT at its end, form " + form, 0, () -> x.read(asked));
        }
        for (int part = 0; part < 3; part++) {
            for (int what = 0; what < 13; what++) {
                int p = part;
                int w = what;
                Check.due("no field " + part + " " + what, Check.NONE, () -> x.field(p, w));
            }
        }
        Check.illegal("no leap day: no second 60", () -> x.instant(1439, 60));
        Check.due("no leap day: day 1 begins so", 86400, () -> x.instant(1440, 0));
        Check.due("the first leap day", 1, () -> x.leap(0));
        Check.due("the first zone", 0, () -> x.zone(0));
    }

    private static void promise1NothingShared() {
        MomentTexts x = new MomentTexts();
        x.leap(0);
        x.zone(60);
        x.change(0, 5, 7);
        Check.text(x, "2024");
        x.read(1);
        x.writeDate(0, 0);
        promise1NewObject();
        Check.due("the older one keeps its change", 7, () -> x.offset(0, 5));
        Check.due("the older one keeps its field", 3, () -> x.field(0, 1));
        Check.due("the older one keeps its OUT", 10, x::pass);
    }

    private static void promise2Years() {
        MomentTexts x = new MomentTexts();
        Check.due("DAY 0 is 1970-01-01", 0, () -> x.day(1970, 1, 1));
        Check.due("the day before it", -1, () -> x.day(1969, 12, 31));
        Check.due("the first YEAR", FIRST_DAY, () -> x.day(-999999, 1, 1));
        Check.due("the last YEAR", LAST_DAY, () -> x.day(999999, 12, 31));
        Check.due("there is a year 0", -719528, () -> x.day(0, 1, 1));
        Check.due("before it is year -1", -719529, () -> x.day(-1, 12, 31));
        Check.due("behind it is year 1", -719528 + 366, () -> x.day(1, 1, 1));
        Check.illegal("a year too small", () -> x.day(-1000000, 12, 31));
        Check.illegal("a year too large", () -> x.day(1000000, 1, 1));
        Check.illegal("the least year", () -> x.day(Integer.MIN_VALUE, 1, 1));
        Check.illegal("the most year", () -> x.day(Integer.MAX_VALUE, 1, 1));
    }

    private static void promise2MonthsAndDays() {
        MomentTexts x = new MomentTexts();
        int[] lengths = {31, 28, 31, 30, 31, 30, 31, 31, 30, 31, 30, 31};
        long before = 0;
        for (int i = 0; i < 12; i++) {
            int month = i + 1;
            int length = lengths[i];
            long start = before;
            Check.due("the first of month " + month, start, () -> x.day(1970, month, 1));
            Check.due("the last of month " + month, start + length - 1, () -> x.day(1970, month, length));
            Check.illegal("behind the last of month " + month, () -> x.day(1970, month, length + 1));
            Check.illegal("day 0 of month " + month, () -> x.day(1970, month, 0));
            before += length;
        }
        Check.illegal("month 0", () -> x.day(1970, 0, 1));
        Check.illegal("month 13", () -> x.day(1970, 13, 1));
        Check.illegal("month -1", () -> x.day(1970, -1, 1));
        Check.illegal("day -1", () -> x.day(1970, 1, -1));
        for (int year : new int[] {4, 2024, 2000, 400, 0, -4, -400, 999996, -999996}) {
            Check.due("a LEAP YEAR, " + year, x.day(year, 3, 1) - 1, () -> x.day(year, 2, 29));
            Check.illegal("no 30th of February " + year, () -> x.day(year, 2, 30));
        }
        for (int year : new int[] {1, 2023, 1900, 2100, 100, -1, -100, -999999, 999999}) {
            Check.illegal("no LEAP YEAR, " + year, () -> x.day(year, 2, 29));
            Check.due("the last of February " + year, x.day(year, 3, 1) - 1, () -> x.day(year, 2, 28));
        }
    }

    private static void parts(String name, long day, long... want) {
        MomentTexts x = new MomentTexts();
        for (int what = 0; what < want.length; what++) {
            int asked = what;
            Check.due(name + ", what " + what, want[what], () -> x.date(day, asked));
        }
    }

    private static void promise3Parts() {
        parts("day 0 is a Thursday", 0, 1970, 1, 1, 4, 1, 1970, 1, 0, 31, 53);
        parts("the day before it", -1, 1969, 12, 31, 3, 365, 1970, 1, 0, 31, 53);
        parts("the first day of YEARS", FIRST_DAY, -999999, 1, 1, 1, 1, -999999, 1, 0, 31, 52);
        parts("the last day of YEARS", LAST_DAY, 999999, 12, 31, 5, 365, 999999, 52, 0, 31, 52);
        parts("the first of year 0", -719528, 0, 1, 1, 6, 1, -1, 52, 1, 31, 52);
        parts("the 29th of February", 19782, 2024, 2, 29, 4, 60, 2024, 9, 1, 29, 52);
    }

    private static void promise3Wraps() {
        parts("a Monday of December in the next week year", 17896, 2018, 12, 31, 1, 365, 2019, 1, 0, 31, 52);
        parts("a Friday of January in week 53", 18628, 2021, 1, 1, 5, 1, 2020, 53, 0, 31, 53);
        parts("a Sunday of January in week 53", 18630, 2021, 1, 3, 7, 3, 2020, 53, 0, 31, 53);
        parts("the Monday behind it", 18631, 2021, 1, 4, 1, 4, 2021, 1, 0, 31, 52);
        parts("a Sunday of January in week 52", 17167, 2017, 1, 1, 7, 1, 2016, 52, 0, 31, 52);
        parts("ORDINAL 366", 18627, 2020, 12, 31, 4, 366, 2020, 53, 1, 31, 53);
        parts("behind a short February", 19417, 2023, 3, 1, 3, 60, 2023, 9, 0, 31, 52);
        parts("a year by 100 alone", -25508, 1900, 3, 1, 4, 60, 1900, 9, 0, 31, 52);
        parts("a year by 400", 11016, 2000, 2, 29, 2, 60, 2000, 9, 1, 29, 52);
    }

    private static void promise3Refused() {
        MomentTexts x = new MomentTexts();
        for (int what = 0; what < 10; what++) {
            int asked = what;
            Check.illegal("a day before YEARS, what " + what, () -> x.date(FIRST_DAY - 1, asked));
            Check.illegal("a day behind YEARS, what " + what, () -> x.date(LAST_DAY + 1, asked));
            Check.illegal("the least day, what " + what, () -> x.date(Long.MIN_VALUE, asked));
            Check.illegal("the most day, what " + what, () -> x.date(Long.MAX_VALUE, asked));
            // These are days of YEARS if only their low 32 bits are looked at.
            Check.illegal("a day far above, what " + what, () -> x.date(1L << 32, asked));
            Check.illegal("a day far below, what " + what, () -> x.date(-1L << 32, asked));
        }
        for (int what : new int[] {-1, 10, Integer.MIN_VALUE, Integer.MAX_VALUE}) {
            Check.illegal("another what, " + what, () -> x.date(0, what));
        }
    }

    private static void promise4Weeks() {
        MomentTexts x = new MomentTexts();
        Check.due("week 1 has the first Thursday", 0, () -> x.weekDay(1970, 1, 4));
        Check.due("it can begin in the year before", -3, () -> x.weekDay(1970, 1, 1));
        Check.due("it ends with Sunday", 3, () -> x.weekDay(1970, 1, 7));
        Check.due("week 53 of a year with 53", 18630, () -> x.weekDay(2020, 53, 7));
        Check.due("then comes week 1", 18631, () -> x.weekDay(2021, 1, 1));
        Check.due("the last week of a year with 52", 18994, () -> x.weekDay(2021, 52, 7));
        Check.due("the first day of YEARS", FIRST_DAY, () -> x.weekDay(-999999, 1, 1));
        Check.due("the last day of YEARS", LAST_DAY, () -> x.weekDay(999999, 52, 5));
    }

    private static void promise4Refused() {
        MomentTexts x = new MomentTexts();
        Check.illegal("week 53 of a year with 52", () -> x.weekDay(2021, 53, 1));
        Check.illegal("week 54", () -> x.weekDay(2020, 54, 1));
        Check.illegal("week 0", () -> x.weekDay(2020, 0, 7));
        Check.illegal("week -1", () -> x.weekDay(2020, -1, 7));
        Check.illegal("weekday 0", () -> x.weekDay(2020, 1, 0));
        Check.illegal("weekday 8", () -> x.weekDay(2020, 1, 8));
        Check.illegal("weekday -1", () -> x.weekDay(2020, 1, -1));
        Check.illegal("a Saturday behind YEARS", () -> x.weekDay(999999, 52, 6));
        Check.illegal("a Sunday behind YEARS", () -> x.weekDay(999999, 52, 7));
        Check.illegal("week 53 behind YEARS", () -> x.weekDay(999999, 53, 1));
        Check.illegal("a week year behind YEARS", () -> x.weekDay(1000000, 1, 1));
        Check.illegal("a week year before YEARS", () -> x.weekDay(-1000000, 52, 7));
        for (int most : new int[] {Integer.MIN_VALUE, Integer.MAX_VALUE}) {
            Check.illegal("week year " + most, () -> x.weekDay(most, 1, 1));
            Check.illegal("week " + most, () -> x.weekDay(2020, most, 1));
            Check.illegal("weekday " + most, () -> x.weekDay(2020, 1, most));
        }
    }

    private static void months(MomentTexts x, String name, long from, int months, long to) {
        Check.due(name, to, () -> x.months(from, months));
    }

    private static void promise5LastOfMonth() {
        MomentTexts x = new MomentTexts();
        months(x, "with its day of the month", x.day(2024, 1, 15), 1, x.day(2024, 2, 15));
        months(x, "no months", x.day(2024, 1, 31), 0, x.day(2024, 1, 31));
        months(x, "31 January and 1 in a leap year", x.day(2024, 1, 31), 1, x.day(2024, 2, 29));
        months(x, "31 January and 1 in another one", x.day(2023, 1, 31), 1, x.day(2023, 2, 28));
        months(x, "31 March and 1", x.day(2023, 3, 31), 1, x.day(2023, 4, 30));
        months(x, "31 March and -1", x.day(2023, 3, 31), -1, x.day(2023, 2, 28));
        months(x, "29 February and 12", x.day(2024, 2, 29), 12, x.day(2025, 2, 28));
        months(x, "29 February and 48", x.day(2024, 2, 29), 48, x.day(2028, 2, 29));
        months(x, "28 February and 1 stays a 28th", x.day(2023, 2, 28), 1, x.day(2023, 3, 28));
        months(x, "December and 1", x.day(2023, 12, 31), 1, x.day(2024, 1, 31));
        months(x, "January and -1", x.day(2024, 1, 31), -1, x.day(2023, 12, 31));
        months(x, "over year 0", x.day(1, 1, 31), -11, x.day(0, 2, 29));
        months(x, "below year 0", x.day(0, 1, 31), -1, x.day(-1, 12, 31));
        months(x, "up to the last month", x.day(999999, 11, 30), 1, x.day(999999, 12, 30));
        months(x, "down to the first month", x.day(-999999, 2, 28), -1, x.day(-999999, 1, 28));
        months(x, "through all YEARS", FIRST_DAY, 23999987, x.day(999999, 12, 1));
        months(x, "and back", LAST_DAY, -23999987, x.day(-999999, 1, 31));
    }

    private static void promise5Refused() {
        MomentTexts x = new MomentTexts();
        Check.illegal("a month behind YEARS", () -> x.months(LAST_DAY, 1));
        Check.illegal("a month behind YEARS, of its first day", () -> x.months(LAST_DAY - 30, 1));
        Check.illegal("a month before YEARS", () -> x.months(FIRST_DAY, -1));
        Check.illegal("a month before YEARS, of its last day", () -> x.months(FIRST_DAY + 30, -1));
        Check.illegal("all months and one", () -> x.months(FIRST_DAY, 23999988));
        Check.illegal("from before YEARS into them", () -> x.months(FIRST_DAY - 1, 1));
        Check.illegal("from behind YEARS into them", () -> x.months(LAST_DAY + 1, -1));
        Check.illegal("from the least day", () -> x.months(Long.MIN_VALUE, 0));
        Check.illegal("from the most day", () -> x.months(Long.MAX_VALUE, 0));
        for (int most : new int[] {Integer.MIN_VALUE, Integer.MAX_VALUE, Integer.MIN_VALUE + 1}) {
            Check.illegal(most + " months from day 0", () -> x.months(0, most));
            Check.illegal(most + " months from the first day", () -> x.months(FIRST_DAY, most));
            Check.illegal(most + " months from the last day", () -> x.months(LAST_DAY, most));
        }
    }

    private static void promise6Easter() {
        MomentTexts x = new MomentTexts();
        Check.due("the earliest Easter", x.day(1818, 3, 22), () -> x.easter(1818));
        Check.due("the latest Easter", x.day(1943, 4, 25), () -> x.easter(1943));
        Check.due("a Sunday put forward from 26 April", x.day(1981, 4, 19), () -> x.easter(1981));
        Check.due("a Sunday put forward from 25 April", x.day(1954, 4, 18), () -> x.easter(1954));
        Check.due("2024", x.day(2024, 3, 31), () -> x.easter(2024));
        Check.due("2025", x.day(2025, 4, 20), () -> x.easter(2025));
        Check.due("year 0", x.day(0, 4, 9), () -> x.easter(0));
        Check.due("year 999999 has one, a Sunday", 7, () -> x.date(x.easter(999999), 3));
        Check.due("year 0 has one, a Sunday", 7, () -> x.date(x.easter(0), 3));
        Check.illegal("a year below 0", () -> x.easter(-1));
        Check.illegal("a year behind YEARS", () -> x.easter(1000000));
        Check.illegal("the least year", () -> x.easter(Integer.MIN_VALUE));
        Check.illegal("the most year", () -> x.easter(Integer.MAX_VALUE));
    }
}
