/** Promises 21 to 24, sentence by sentence. */
public final class EdgesOfWritingTest {
    private static final long FIRST_DAY = -365961662;
    private static final long LAST_DAY = 364522971;
    private static final long FIRST = FIRST_DAY * 86400;
    private static final long LAST = LAST_DAY * 86400 + 86399;

    public static void main(String[] args) {
        promise21Styles();
        promise21Years();
        promise21WeekYears();
        promise21Refused();
        promise22Offsets();
        promise22Digits();
        promise22Years();
        promise22LeapSeconds();
        promise22Refused();
        promise23LeftOut();
        promise23Parts();
        promise23Most();
        promise23Refused();
        promise24Bytes();
        promise24MadeLast();
        Check.end();
    }

    private static void dates(long day, String... want) {
        for (int style = 0; style < want.length; style++) {
            MomentTexts x = new MomentTexts();
            Check.same("day " + day + ", style " + style, want[style], Check.out(x, x.writeDate(day, style)));
        }
    }

    private static void promise21Styles() {
        dates(0, "1970-01-01", "19700101", "1970-001", "1970001", "1970-W01-4", "1970W014");
        dates(19782, "2024-02-29", "20240229", "2024-060", "2024060", "2024-W09-4", "2024W094");
        dates(18627, "2020-12-31", "20201231", "2020-366", "2020366", "2020-W53-4", "2020W534");
    }

    private static void promise21Years() {
        dates(-719528, "0000-01-01", "00000101", "0000-001", "0000001");
        dates(-719529, "-000001-12-31", "-000001-12-31", "-000001-365", "-000001-365");
        dates(2932896, "9999-12-31", "99991231", "9999-365", "9999365", "9999-W52-5", "9999W525");
        dates(2932897, "+010000-01-01", "+010000-01-01", "+010000-001", "+010000-001");
        dates(FIRST_DAY, "-999999-01-01", "-999999-01-01", "-999999-001", "-999999-001", "-999999-W01-1",
            "-999999-W01-1");
        dates(LAST_DAY, "+999999-12-31", "+999999-12-31", "+999999-365", "+999999-365", "+999999-W52-5",
            "+999999-W52-5");
    }

    /** It is the week year that is told, and outside of 0 .. 9999 or not. */
    private static void promise21WeekYears() {
        MomentTexts x = new MomentTexts();
        dates(x.day(0, 1, 2), "0000-01-02", "00000102", "0000-002", "0000002", "-000001-W52-7", "-000001-W52-7");
        dates(x.day(0, 1, 3), "0000-01-03", "00000103", "0000-003", "0000003", "0000-W01-1", "0000W011");
        dates(x.day(10000, 1, 2), "+010000-01-02", "+010000-01-02", "+010000-002", "+010000-002", "9999-W52-7",
            "9999W527");
        dates(x.day(10000, 1, 3), "+010000-01-03", "+010000-01-03", "+010000-003", "+010000-003",
            "+010000-W01-1", "+010000-W01-1");
        dates(x.day(2018, 12, 31), "2018-12-31", "20181231", "2018-365", "2018365", "2019-W01-1", "2019W011");
        dates(x.day(2021, 1, 3), "2021-01-03", "20210103", "2021-003", "2021003", "2020-W53-7", "2020W537");
    }

    private static void promise21Refused() {
        MomentTexts x = new MomentTexts();
        x.writeDate(0, 0);
        for (int style = 0; style < 6; style++) {
            int asked = style;
            for (long day : new long[] {FIRST_DAY - 1, LAST_DAY + 1, Long.MIN_VALUE, Long.MAX_VALUE, 1L << 32}) {
                Check.illegal("day " + day + ", style " + style, () -> x.writeDate(day, asked));
            }
        }
        for (int style : new int[] {-1, 6, Integer.MIN_VALUE, Integer.MAX_VALUE}) {
            Check.illegal("style " + style, () -> x.writeDate(0, style));
        }
        Check.same("OUT stays", "1970-01-01", Check.out(x, 10));
    }

    private static void instant(long instant, int nanos, int offset, int digits, String want) {
        MomentTexts x = new MomentTexts();
        x.leap(0);
        Check.same("instant " + instant + " by " + offset, want,
            Check.out(x, x.writeInstant(instant, nanos, offset, digits)));
    }

    private static void promise22Offsets() {
        instant(0, 0, 0, 0, "1970-01-01T00:00:00Z");
        instant(0, 0, 1, 0, "1970-01-01T00:01:00+00:01");
        instant(0, 0, -1, 0, "1969-12-31T23:59:00-00:01");
        instant(0, 0, 59, 0, "1970-01-01T00:59:00+00:59");
        instant(0, 0, 60, 0, "1970-01-01T01:00:00+01:00");
        instant(0, 0, 1439, 0, "1970-01-01T23:59:00+23:59");
        instant(0, 0, -1439, 0, "1969-12-31T00:01:00-23:59");
        instant(86399, 0, 0, 0, "1970-01-01T23:59:59Z");
        instant(-1, 0, 0, 0, "1969-12-31T23:59:59Z");
    }

    private static void promise22Digits() {
        instant(0, 999999999, 0, 0, "1970-01-01T00:00:00Z");
        instant(0, 999999999, 0, 1, "1970-01-01T00:00:00.9Z");
        instant(0, 123456789, 0, 8, "1970-01-01T00:00:00.12345678Z");
        instant(0, 123456789, 0, 9, "1970-01-01T00:00:00.123456789Z");
        instant(0, 1, 0, 8, "1970-01-01T00:00:00.00000000Z");
        instant(0, 1, 0, 9, "1970-01-01T00:00:00.000000001Z");
        instant(0, 0, 0, 1, "1970-01-01T00:00:00.0Z");
        instant(0, 0, 0, 9, "1970-01-01T00:00:00.000000000Z");
        instant(0, 50000000, 5, 3, "1970-01-01T00:05:00.050+00:05");
    }

    private static void promise22Years() {
        instant(-719528L * 86400, 0, 0, 0, "0000-01-01T00:00:00Z");
        instant(-719528L * 86400 - 1, 0, 0, 0, "-000001-12-31T23:59:59Z");
        instant(-719528L * 86400, 0, -1, 0, "-000001-12-31T23:59:00-00:01");
        instant(-719528L * 86400 - 1, 0, 1, 0, "0000-01-01T00:00:59+00:01");
        instant(2932897L * 86400, 0, 0, 0, "9999-12-31T23:59:59Z");
        instant(2932897L * 86400 + 1, 0, 0, 0, "+010000-01-01T00:00:00Z");
        instant(2932897L * 86400 + 1, 0, -1, 0, "9999-12-31T23:59:00-00:01");
        instant(2932897L * 86400, 0, 1, 0, "+010000-01-01T00:00:59+00:01");
        instant(FIRST, 0, 0, 0, "-999999-01-01T00:00:00Z");
        instant(LAST + 1, 999999999, 0, 9, "+999999-12-31T23:59:59.999999999Z");
        instant(FIRST, 0, 1439, 9, "-999999-01-01T23:59:00.000000000+23:59");
        instant(LAST + 1, 0, -1439, 0, "+999999-12-31T00:00:59-23:59");
    }

    private static void promise22LeapSeconds() {
        instant(86400, 0, 0, 0, "1970-01-01T23:59:60Z");
        instant(86400, 999999999, 1, 2, "1970-01-02T00:00:60.99+00:01");
        instant(86400, 0, -1439, 0, "1970-01-01T00:00:60-23:59");
        instant(86401, 0, 0, 0, "1970-01-02T00:00:00Z");
    }

    private static void promise22Refused() {
        MomentTexts x = new MomentTexts();
        x.writeInstant(0, 0, 0, 0);
        for (long instant : new long[] {FIRST - 1, LAST + 1, Long.MIN_VALUE, Long.MAX_VALUE}) {
            Check.illegal("instant " + instant, () -> x.writeInstant(instant, 0, 0, 0));
        }
        Check.illegal("an instant before YEARS, its local minute is of one", () -> x.writeInstant(FIRST - 1, 0, 60, 0));
        Check.illegal("an instant behind YEARS, its local minute is of one", () -> x.writeInstant(LAST + 1, 0, -60, 0));
        Check.illegal("a local minute before YEARS", () -> x.writeInstant(FIRST, 0, -1, 0));
        Check.illegal("a local minute behind YEARS", () -> x.writeInstant(LAST, 0, 1, 0));
        Check.illegal("a local minute before YEARS by a day", () -> x.writeInstant(FIRST + 1438 * 60 + 59, 0, -1439, 0));
        Check.illegal("a local minute behind YEARS by a day", () -> x.writeInstant(LAST - 1438 * 60 - 59, 0, 1439, 0));
        for (int nanos : new int[] {-1, 1000000000, Integer.MIN_VALUE, Integer.MAX_VALUE}) {
            Check.illegal("nanos " + nanos, () -> x.writeInstant(0, nanos, 0, 0));
        }
        for (int offset : new int[] {-1440, 1440, Integer.MIN_VALUE, Integer.MAX_VALUE}) {
            Check.illegal("offset " + offset, () -> x.writeInstant(0, 0, offset, 0));
        }
        for (int digits : new int[] {-1, 10, Integer.MIN_VALUE, Integer.MAX_VALUE}) {
            Check.illegal("digits " + digits, () -> x.writeInstant(0, 0, 0, digits));
        }
        Check.same("OUT stays", "1970-01-01T00:00:00Z", Check.out(x, 20));
    }

    private static void duration(long months, long days, long seconds, int nanos, String want) {
        MomentTexts x = new MomentTexts();
        Check.same("a duration", want, Check.out(x, x.writeDuration(months, days, seconds, nanos)));
    }

    private static void promise23LeftOut() {
        duration(0, 0, 0, 0, "PT0S");
        duration(1, 0, 0, 0, "P1M");
        duration(11, 0, 0, 0, "P11M");
        duration(12, 0, 0, 0, "P1Y");
        duration(13, 0, 0, 0, "P1Y1M");
        duration(0, 1, 0, 0, "P1D");
        duration(0, 10, 0, 0, "P10D");
        duration(12, 1, 0, 0, "P1Y1D");
        duration(0, 0, 1, 0, "PT1S");
        duration(0, 0, 59, 0, "PT59S");
        duration(0, 0, 60, 0, "PT1M");
        duration(0, 0, 61, 0, "PT1M1S");
        duration(0, 0, 3599, 0, "PT59M59S");
        duration(0, 0, 3600, 0, "PT1H");
        duration(0, 0, 3601, 0, "PT1H1S");
        duration(0, 0, 3660, 0, "PT1H1M");
        duration(0, 0, 86400, 0, "PT24H");
        duration(13, 1, 3661, 0, "P1Y1M1DT1H1M1S");
        duration(1, 0, 60, 0, "P1MT1M");
        duration(0, 7, 0, 0, "P7D");
    }

    private static void promise23Parts() {
        duration(0, 0, 0, 1, "PT0.000000001S");
        duration(0, 0, 0, 500000000, "PT0.5S");
        duration(0, 0, 0, 10, "PT0.00000001S");
        duration(0, 0, 0, 100000000, "PT0.1S");
        duration(0, 0, 1, 120000000, "PT1.12S");
        duration(0, 0, 1, 100000001, "PT1.100000001S");
        duration(0, 0, 60, 5000, "PT1M0.000005S");
        duration(0, 0, 3600, 1, "PT1H0.000000001S");
        duration(0, 1, 0, 1, "P1DT0.000000001S");
        duration(1, 0, 0, 999999999, "P1MT0.999999999S");
    }

    private static void promise23Most() {
        duration(999999999, 0, 0, 0, "P83333333Y3M");
        duration(0, 999999999, 0, 0, "P999999999D");
        duration(0, 0, 3599999999999L, 0, "PT999999999H59M59S");
        duration(0, 0, 0, 999999999, "PT0.999999999S");
        duration(999999999, 999999999, 3599999999999L, 999999999,
            "P83333333Y3M999999999DT999999999H59M59.999999999S");
        duration(999999995, 0, 3599999996400L, 0, "P83333332Y11MT999999999H");
    }

    private static void promise23Refused() {
        MomentTexts x = new MomentTexts();
        x.writeDuration(0, 0, 0, 0);
        for (long none : new long[] {-1, 1000000000, Long.MIN_VALUE, Long.MAX_VALUE, 1L << 32}) {
            Check.illegal("months " + none, () -> x.writeDuration(none, 0, 0, 0));
            Check.illegal("days " + none, () -> x.writeDuration(0, none, 0, 0));
        }
        for (long none : new long[] {-1, 3600000000000L, Long.MIN_VALUE, Long.MAX_VALUE}) {
            Check.illegal("seconds " + none, () -> x.writeDuration(0, 0, none, 0));
        }
        for (int none : new int[] {-1, 1000000000, Integer.MIN_VALUE, Integer.MAX_VALUE}) {
            Check.illegal("nanos " + none, () -> x.writeDuration(0, 0, 0, none));
        }
        Check.same("OUT stays", "PT0S", Check.out(x, 4));
    }

    private static void promise24Bytes() {
        MomentTexts x = new MomentTexts();
        for (int i : new int[] {-1, 0, 1, 119, 120, Integer.MIN_VALUE, Integer.MAX_VALUE}) {
            Check.due("byte " + i + " of an empty OUT", Check.OUTSIDE, () -> x.out(i));
        }
        x.writeDate(0, 1);
        Check.due("the first byte", '1', () -> x.out(0));
        Check.due("the last byte", '1', () -> x.out(7));
        for (int i : new int[] {-1, 8, 119, 120, Integer.MIN_VALUE, Integer.MAX_VALUE}) {
            Check.due("byte " + i + " of eight", Check.OUTSIDE, () -> x.out(i));
        }
    }

    private static void promise24MadeLast() {
        MomentTexts x = new MomentTexts();
        x.writeDuration(999999999, 999999999, 3599999999999L, 999999999);
        x.writeDuration(0, 0, 0, 0);
        Check.same("a shorter text behind a longer one", "PT0S", Check.out(x, 4));
        x.writeDate(0, 0);
        Check.same("a date behind a duration", "1970-01-01", Check.out(x, 10));
        x.writeInstant(0, 0, 0, 0);
        Check.same("an instant behind a date", "1970-01-01T00:00:00Z", Check.out(x, 20));
        Check.text(x, "2024");
        x.read(1);
        x.clear();
        Check.same("typing, reading and clearing change nothing in OUT", "1970-01-01T00:00:00Z", Check.out(x, 20));
    }
}
