import java.math.BigDecimal;
import java.time.LocalDate;
import java.time.LocalDateTime;
import java.time.ZoneOffset;
import java.time.temporal.IsoFields;
import java.util.Random;

/** Promises 17 and 21 to 24: what is written, and that it is read back. */
public final class WritesTest {
    private static final long FIRST_DAY = Model.FIRST_MINUTE / 1440;
    private static final long LAST_DAY = (Model.LAST_MINUTE - 1439) / 1440;

    public static void main(String[] args) {
        nothing();
        toldDates();
        toldInstants();
        toldDurations();
        Random random = new Random(6);
        for (int i = 0; i < 3000; i++) {
            MomentTexts x = new MomentTexts();
            randomDate(x, random);
            randomInstant(x, random);
            randomDuration(x, random);
        }
        Check.end();
    }

    private static void nothing() {
        MomentTexts x = new MomentTexts();
        Check.due("no byte 0", Check.OUTSIDE, () -> x.out(0));
        Check.due("no byte -1", Check.OUTSIDE, () -> x.out(-1));
        x.writeDate(0, 0);
        Check.due("no byte -1 then", Check.OUTSIDE, () -> x.out(-1));
        Check.due("the least byte", Check.OUTSIDE, () -> x.out(Integer.MIN_VALUE));
        Check.due("the most byte", Check.OUTSIDE, () -> x.out(Integer.MAX_VALUE));
        Check.due("no byte 120", Check.OUTSIDE, () -> x.out(120));
    }

    private static void date(MomentTexts x, long day, int style, String want) {
        Check.same("style " + style + " of day " + day, want, Check.out(x, x.writeDate(day, style)));
    }

    private static void toldDates() {
        MomentTexts x = new MomentTexts();
        long day = x.day(2024, 12, 30);
        date(x, day, 0, "2024-12-30");
        date(x, day, 1, "20241230");
        date(x, day, 2, "2024-365");
        date(x, day, 3, "2024365");
        date(x, day, 4, "2025-W01-1");
        date(x, day, 5, "2025W011");
        date(x, x.day(0, 1, 1), 1, "00000101");
        date(x, x.day(0, 1, 1), 5, "-000001-W52-6");
        date(x, x.day(-1, 12, 31), 1, "-000001-12-31");
        date(x, x.day(-1, 12, 31), 3, "-000001-365");
        date(x, x.day(10000, 1, 1), 3, "+010000-001");
        date(x, x.day(10000, 1, 1), 5, "9999W526");
        date(x, x.day(9999, 12, 31), 1, "99991231");
        date(x, FIRST_DAY, 0, "-999999-01-01");
        date(x, FIRST_DAY, 4, "-999999-W01-1");
        date(x, LAST_DAY, 2, "+999999-365");
        date(x, LAST_DAY, 5, "+999999-W52-5");
        Check.illegal("a day before all", () -> x.writeDate(FIRST_DAY - 1, 0));
        Check.illegal("a day behind all", () -> x.writeDate(LAST_DAY + 1, 0));
        Check.illegal("the least day", () -> x.writeDate(Long.MIN_VALUE, 0));
        Check.illegal("the most day", () -> x.writeDate(Long.MAX_VALUE, 0));
        Check.illegal("style -1", () -> x.writeDate(0, -1));
        Check.illegal("style 6", () -> x.writeDate(0, 6));
        Check.same("OUT stays", "+999999-W52-5", Check.out(x, 13));
    }

    private static void instant(MomentTexts x, long instant, int nanos, int offset, int digits, String want) {
        Check.same("instant " + instant, want, Check.out(x, x.writeInstant(instant, nanos, offset, digits)));
    }

    private static void toldInstants() {
        MomentTexts x = new MomentTexts();
        x.leap(17166);
        instant(x, 1483228800, 999999999, 0, 0, "2016-12-31T23:59:60Z");
        instant(x, 1483228800, 999999999, 60, 1, "2017-01-01T00:59:60.9+01:00");
        instant(x, 1483228801, 5, -1, 9, "2016-12-31T23:59:00.000000005-00:01");
        instant(x, 0, 120000000, 1439, 3, "1970-01-01T23:59:00.120+23:59");
        instant(x, 0, 0, -1439, 2, "1969-12-31T00:01:00.00-23:59");
        instant(x, x.instant(x.day(10000, 1, 1) * 1440, 0), 0, 0, 0, "+010000-01-01T00:00:00Z");
        instant(x, x.instant(x.day(10000, 1, 1) * 1440, 0), 0, -1, 0, "9999-12-31T23:59:00-00:01");
        long first = x.instant(Model.FIRST_MINUTE, 0);
        long last = x.instant(Model.LAST_MINUTE, 59);
        instant(x, first, 0, 1, 0, "-999999-01-01T00:01:00+00:01");
        Check.illegal("a local time before all", () -> x.writeInstant(first, 0, -1, 0));
        Check.illegal("a local time behind all", () -> x.writeInstant(last, 0, 1, 0));
        instant(x, last, 0, -1, 0, "+999999-12-31T23:58:59-00:01");
        Check.illegal("an instant before all", () -> x.writeInstant(first - 1, 0, 1, 0));
        Check.illegal("an instant behind all", () -> x.writeInstant(last + 1, 0, -1, 0));
        Check.illegal("the least instant", () -> x.writeInstant(Long.MIN_VALUE, 0, 0, 0));
        Check.illegal("the most instant", () -> x.writeInstant(Long.MAX_VALUE, 0, 0, 0));
        Check.illegal("nanos -1", () -> x.writeInstant(0, -1, 0, 0));
        Check.illegal("nanos too many", () -> x.writeInstant(0, 1000000000, 0, 0));
        Check.illegal("offset 1440", () -> x.writeInstant(0, 0, 1440, 0));
        Check.illegal("offset -1440", () -> x.writeInstant(0, 0, -1440, 0));
        Check.illegal("digits -1", () -> x.writeInstant(0, 0, 0, -1));
        Check.illegal("digits 10", () -> x.writeInstant(0, 0, 0, 10));
        Check.same("OUT stays", "+999999-12-31T23:58:59-00:01", Check.out(x, 28));
    }

    private static void duration(MomentTexts x, long months, long days, long seconds, int nanos, String want) {
        Check.same("a duration", want, Check.out(x, x.writeDuration(months, days, seconds, nanos)));
    }

    private static void toldDurations() {
        MomentTexts x = new MomentTexts();
        duration(x, 0, 0, 0, 0, "PT0S");
        duration(x, 12, 0, 0, 0, "P1Y");
        duration(x, 11, 0, 0, 0, "P11M");
        duration(x, 0, 400, 0, 0, "P400D");
        duration(x, 0, 0, 3600, 0, "PT1H");
        duration(x, 0, 0, 60, 0, "PT1M");
        duration(x, 0, 0, 59, 0, "PT59S");
        duration(x, 0, 0, 0, 1, "PT0.000000001S");
        duration(x, 1, 0, 0, 500000000, "P1MT0.5S");
        duration(x, 1, 0, 0, 1, "P1MT0.000000001S");
        duration(x, 0, 1, 1, 0, "P1DT1S");
        duration(x, 0, 1, 3601, 120000000, "P1DT1H1.12S");
        duration(x, 0, 0, 3600, 10, "PT1H0.00000001S");
        duration(x, 999999999, 999999999, 3599999999999L, 999999999,
            "P83333333Y3M999999999DT999999999H59M59.999999999S");
        Check.illegal("months -1", () -> x.writeDuration(-1, 0, 0, 0));
        Check.illegal("days -1", () -> x.writeDuration(0, -1, 0, 0));
        Check.illegal("seconds -1", () -> x.writeDuration(0, 0, -1, 0));
        Check.illegal("nanos -1", () -> x.writeDuration(0, 0, 0, -1));
        Check.illegal("months too many", () -> x.writeDuration(1000000000, 0, 0, 0));
        Check.illegal("days too many", () -> x.writeDuration(0, 1000000000, 0, 0));
        Check.illegal("seconds too many", () -> x.writeDuration(0, 0, 3600000000000L, 0));
        Check.illegal("nanos too many", () -> x.writeDuration(0, 0, 0, 1000000000));
        Check.illegal("the most months", () -> x.writeDuration(Long.MAX_VALUE, 0, 0, 0));
        Check.same("OUT stays", "P83333333Y3M", Check.out(x, 49).substring(0, 12));
    }

    private static String year(int year) {
        return year >= 0 && year <= 9999 ? String.format("%04d", year) : String.format("%+07d", year);
    }

    private static void randomDate(MomentTexts x, Random random) {
        long day = random.nextBoolean() ? random.nextInt(4000000) - 800000
            : FIRST_DAY + (long) (random.nextDouble() * (LAST_DAY - FIRST_DAY));
        LocalDate date = LocalDate.ofEpochDay(day);
        int style = random.nextInt(6);
        int told = style < 4 ? date.getYear() : date.get(IsoFields.WEEK_BASED_YEAR);
        String dash = style % 2 == 0 || year(told).length() > 4 ? "-" : "";
        String rest = style < 2 ? String.format("%02d%s%02d", date.getMonthValue(), dash, date.getDayOfMonth())
            : style < 4 ? String.format("%03d", date.getDayOfYear())
            : String.format("W%02d%s%d", date.get(IsoFields.WEEK_OF_WEEK_BASED_YEAR), dash,
                date.getDayOfWeek().getValue());
        String want = year(told) + dash + rest;
        date(x, day, style, want);
        Check.due("it becomes the TEXT", want.length(), x::pass);
        Check.due("it is read", Check.NONE, () -> x.read(1));
        Check.due("it is the same day", day, () -> x.field(0, 2));
        Check.due("told so", style < 2 ? 0 : style < 4 ? 2 : 1, () -> x.field(0, 1));
    }

    private static void randomInstant(MomentTexts x, Random random) {
        int nanos = random.nextInt(1000000000);
        int offset = random.nextInt(4) == 0 ? 0 : random.nextInt(2879) - 1439;
        int digits = random.nextInt(10);
        long instant = random.nextBoolean() ? random.nextInt() * 300L
            : (long) ((random.nextDouble() * 2 - 1) * 31000000000000L);
        LocalDateTime local = LocalDateTime.ofEpochSecond(instant + offset * 60L, nanos, ZoneOffset.UTC);
        String part = digits == 0 ? "" : "." + String.format("%09d", nanos).substring(0, digits);
        String zone = offset == 0 ? "Z" : String.format("%s%02d:%02d", offset < 0 ? "-" : "+",
            Math.abs(offset) / 60, Math.abs(offset) % 60);
        String want = year(local.getYear()) + String.format("-%02d-%02dT%02d:%02d:%02d", local.getMonthValue(),
            local.getDayOfMonth(), local.getHour(), local.getMinute(), local.getSecond()) + part + zone;
        instant(x, instant, nanos, offset, digits, want);
        x.pass();
        Check.due("it is read", Check.NONE, () -> x.read(want.charAt(4) == '-' ? 0 : 3));
        Check.due("it is the same instant", instant, () -> x.field(0, 8));
        Check.due("with the same offset", offset, () -> x.field(0, 6));
        Check.due("with its part", digits == 0 ? 0 : new BigDecimal("0" + part).movePointRight(9).longValue(),
            () -> x.field(0, 5));
    }

    private static void randomDuration(MomentTexts x, Random random) {
        long[] told = new long[4];
        long[] most = {999999999, 999999999, 3599999999999L, 999999999};
        for (int i = 0; i < 4; i++) {
            int kind = random.nextInt(3);
            told[i] = kind == 0 ? 0 : (long) (random.nextDouble() * (kind == 1 ? 10000 : most[i]));
        }
        x.writeDuration(told[0], told[1], told[2], (int) told[3]);
        x.pass();
        Check.due("a duration is read", Check.NONE, () -> x.read(4));
        for (int i = 0; i < 4; i++) {
            int what = 9 + i;
            Check.due("its field " + what, told[i], () -> x.field(0, what));
        }
    }
}
