/** Promises 25 and 26, sentence by sentence. */
public final class EdgesOfReckoningTest {
    private static final long FIRST_DAY = -365961662;
    private static final long LAST_DAY = 364522971;
    private static final long FIRST = FIRST_DAY * 86400;
    private static final long LAST = LAST_DAY * 86400 + 86399;
    private static final int[] NO_ZONES = {-1, 1, 7, 8, Integer.MIN_VALUE, Integer.MAX_VALUE};
    private static final long[] NO_INSTANTS = {FIRST - 1, LAST + 1, Long.MIN_VALUE, Long.MAX_VALUE};

    public static void main(String[] args) {
        promise25MonthsThenDays();
        promise25LocalReading();
        promise25Skipped();
        promise25SkippedMidMinute();
        promise25SkippedByRule();
        promise25SkippedBehindAllChanges();
        promise25SkippedAtTheFirstInstant();
        promise25FirstOfTwice();
        promise25Second60();
        promise25Second60Skipped();
        promise25Edges();
        promise25Refused();
        promise26Whole();
        promise26LastOfMonth();
        promise26AcrossChanges();
        promise26LeapSeconds();
        promise26Limit();
        promise26Edges();
        promise26Refused();
        Check.end();
    }

    private static MomentTexts withZone(int offset) {
        MomentTexts x = new MomentTexts();
        x.zone(offset);
        return x;
    }

    private static long at(int year, int month, int day, int hour, int minute, int second) {
        return (new MomentTexts().day(year, month, day) * 1440 + hour * 60 + minute) * 60 + second;
    }

    private static void plus(MomentTexts x, String name, long instant, int months, int days, long want) {
        Check.due(name, want, () -> x.plus(0, instant, months, days));
    }

    private static void promise25MonthsThenDays() {
        MomentTexts x = withZone(0);
        long noon = at(2023, 1, 30, 12, 0, 7);
        plus(x, "nothing", noon, 0, 0, noon);
        plus(x, "a month", noon, 1, 0, at(2023, 2, 28, 12, 0, 7));
        plus(x, "a month, then a day", noon, 1, 1, at(2023, 3, 1, 12, 0, 7));
        plus(x, "a month, then a day back", noon, 1, -1, at(2023, 2, 27, 12, 0, 7));
        plus(x, "two months", noon, 2, 0, at(2023, 3, 30, 12, 0, 7));
        plus(x, "a month back", at(2023, 3, 31, 0, 0, 0), -1, 0, at(2023, 2, 28, 0, 0, 0));
        plus(x, "a month back, then a day", at(2023, 3, 31, 0, 0, 0), -1, 1, at(2023, 3, 1, 0, 0, 0));
        plus(x, "a month back, then a day back", at(2023, 3, 31, 0, 0, 0), -1, -1, at(2023, 2, 27, 0, 0, 0));
        plus(x, "into a leap year's February", at(2024, 1, 31, 23, 59, 59), 1, 0, at(2024, 2, 29, 23, 59, 59));
        plus(x, "over the year's end", at(2023, 12, 31, 1, 2, 3), 2, 1, at(2024, 3, 1, 1, 2, 3));
        plus(x, "before day 0", 0, -1, -1, at(1969, 11, 30, 0, 0, 0));
    }

    private static void promise25LocalReading() {
        MomentTexts x = withZone(60);
        plus(x, "a local day of the next month", at(2023, 1, 31, 23, 30, 0), 1, 0, at(2023, 2, 28, 23, 30, 0));
        plus(x, "a local day of this month", at(2023, 1, 31, 22, 30, 0), 1, 0, at(2023, 2, 28, 22, 30, 0));
        MomentTexts west = withZone(-60);
        plus(west, "a local day of the month before", at(2023, 3, 1, 0, 30, 0), 1, 0, at(2023, 3, 29, 0, 30, 0));
        MomentTexts z = withZone(0);
        z.change(0, at(2023, 1, 15, 0, 0, 0), 90);
        plus(z, "over a change: the clock time stays", at(2023, 1, 14, 12, 0, 0), 0, 1, at(2023, 1, 15, 10, 30, 0));
        plus(z, "back over it", at(2023, 1, 15, 10, 30, 0), 0, -1, at(2023, 1, 14, 12, 0, 0));
    }

    /** A change at 10:00 UTC of day 10, from 0 to 120 minutes: 10:00:00 to 11:59:59 local are skipped. */
    private static void promise25Skipped() {
        MomentTexts x = withZone(0);
        long change = 10 * 86400 + 36000;
        x.change(0, change, 120);
        long dayBefore = change - 86400;
        plus(x, "just before what is skipped", dayBefore - 1, 0, 1, change - 1);
        plus(x, "the first that is skipped", dayBefore, 0, 1, change);
        plus(x, "its second stays", dayBefore + 1, 0, 1, change + 1);
        plus(x, "in the middle", dayBefore + 3600, 0, 1, change + 3600);
        plus(x, "the last that is skipped", dayBefore + 7199, 0, 1, change + 7199);
        plus(x, "just behind it", dayBefore + 7200, 0, 1, change);
        plus(x, "a second more", dayBefore + 7201, 0, 1, change + 1);
        plus(x, "by months", at(1969, 12, 11, 10, 30, 0), 1, 0, change + 1800);
        // From behind the change back into what it skips: by the OFFSET before it all the same.
        plus(x, "back into it", change + 86400 - 3600, 0, -1, change + 3600);
    }

    private static void promise25SkippedMidMinute() {
        MomentTexts x = withZone(0);
        long change = 10 * 86400 + 36030;
        x.change(0, change, 1);
        long dayBefore = change - 86400;
        plus(x, "just before what is skipped", dayBefore - 1, 0, 1, change - 1);
        plus(x, "the first that is skipped", dayBefore, 0, 1, change);
        plus(x, "the last that is skipped", dayBefore + 59, 0, 1, change + 59);
        plus(x, "just behind it", dayBefore + 60, 0, 1, change);
    }

    private static void promise25SkippedByRule() {
        MomentTexts x = withZone(0);
        Check.text(x, "CET-1CEST,M3.5.0,M10.5.0/3");
        x.rule(0);
        long change = at(2024, 3, 31, 1, 0, 0);
        plus(x, "02:00 is skipped", change - 86400, 0, 1, change);
        plus(x, "02:59:59 is skipped", change - 86400 + 3599, 0, 1, change + 3599);
        plus(x, "03:00 is not", change - 86400 + 3600, 0, 1, change);
        long back = at(2024, 10, 27, 1, 0, 0);
        plus(x, "02:30 comes twice", back - 86400 - 1800, 0, 1, back - 1800);
        plus(x, "02:00 comes twice", back - 86400 - 3600, 0, 1, back - 3600);
        plus(x, "from the second 02:30 back to the first", back + 1800, 0, 0, back - 1800);
        x.zone(0);
        x.change(1, change, 0);
        Check.text(x, "CET-1");
        x.rule(1);
        Check.due("skipped by a change to a rule's OFFSET", change + 1800, () -> x.plus(1, change - 86400 + 1800, 0, 1));
    }

    /** 60 changes in the day before, and then one by the rule. */
    private static void promise25SkippedBehindAllChanges() {
        MomentTexts x = withZone(0);
        for (int i = 1; i <= 60; i++) {
            x.change(0, 9 * 86400 + 36000 + 60L * i, i % 2);
        }
        Check.text(x, "AAA0BBB,J11,J200");
        x.rule(0);
        long change = 10 * 86400 + 7200;
        plus(x, "just before what is skipped", change - 86401, 0, 1, change - 1);
        plus(x, "the first that is skipped", change - 86400, 0, 1, change);
        plus(x, "the last that is skipped", change - 86400 + 3599, 0, 1, change + 3599);
        plus(x, "just behind it", change - 86400 + 3600, 0, 1, change);
    }

    /** A change at the first instant of all: what it skips comes by the OFFSET before it all the same. */
    private static void promise25SkippedAtTheFirstInstant() {
        MomentTexts x = withZone(0);
        x.change(0, FIRST, 60);
        long day = 86400;
        plus(x, "the first local minute is skipped", FIRST + day - 3600, 0, -1, FIRST);
        plus(x, "in the middle", FIRST + day - 1800, 0, -1, FIRST + 1800);
        plus(x, "the last that is skipped", FIRST + day - 1, 0, -1, FIRST + 3599);
        plus(x, "just behind it", FIRST + day, 0, -1, FIRST);
        between(x, "from there", FIRST, FIRST + day, 0, 1, 0);
        MomentTexts behind = withZone(0);
        behind.change(0, FIRST + 1, 60);
        plus(behind, "a change a second later: the first is not skipped", FIRST + day - 3600, 0, -1, FIRST);
        plus(behind, "the first that is", FIRST + day - 3599, 0, -1, FIRST + 1);
        MomentTexts leapt = withZone(0);
        leapt.leap(FIRST_DAY);
        leapt.change(0, FIRST - 1, 60);
        plus(leapt, "with a leap day there", FIRST + day - 1801, 0, -1, FIRST - 1 + 1800);
        MomentTexts west = withZone(-60);
        west.change(0, FIRST, 60);
        plus(west, "by an OFFSET west of UTC", FIRST + day - 1800, 0, -1, FIRST + 1800 + 3600);
        MomentTexts east = withZone(30);
        east.change(0, FIRST, 60);
        plus(east, "the instant by the OFFSET before is of no YEAR", FIRST + day - 3000, 0, -1, Check.ILLEGAL);
        plus(east, "that one is", FIRST + day - 1800, 0, -1, FIRST);
        MomentTexts ruled = withZone(0);
        Check.text(ruled, "AAA0BBB,J1/0,J200");
        ruled.rule(0);
        plus(ruled, "by a rule", FIRST + day - 1800, 0, -1, FIRST + 1800);
    }

    private static void promise25FirstOfTwice() {
        MomentTexts x = withZone(120);
        long change = 10 * 86400 + 36000;
        x.change(0, change, 0);
        plus(x, "just before what comes twice", change - 86400 - 7201, 0, 1, change - 7201);
        plus(x, "the first that comes twice", change - 86400 - 7200, 0, 1, change - 7200);
        plus(x, "the last that comes twice", change - 86400 - 1, 0, 1, change - 1);
        plus(x, "just behind it", change - 86400, 0, 1, change + 7200);
        plus(x, "back to it", change + 86400, 0, -1, change - 7200);
        plus(x, "back to behind it", change + 86400 + 7200, 0, -1, change + 7200);
        plus(x, "of the second one, nothing", change, 0, 0, change - 7200);
    }

    private static void promise25Second60() {
        MomentTexts x = withZone(30);
        x.leap(10);
        x.leap(12);
        long leap = 11 * 86400;
        plus(x, "nothing: second 60 itself", leap, 0, 0, leap);
        plus(x, "a day on: that minute has none, so 59", leap, 0, 1, leap + 86400);
        plus(x, "a day back: that minute has none, so 59", leap, 0, -1, leap - 86401);
        plus(x, "two days on: that minute has one", leap, 0, 2, leap + 2 * 86400 + 1);
        plus(x, "a month on", leap, 1, 0, leap + 31 * 86400 + 1);
        plus(x, "59 of a minute with 60 stays 59", leap - 1, 0, 2, leap + 2 * 86400);
        MomentTexts z = withZone(0);
        z.leap(10);
        z.leap(12);
        z.change(0, 12 * 86400, 30);
        plus(z, "the offset is another one: that local minute has none", leap, 0, 2, 12 * 86400 + 86400 - 1800);
    }

    private static void promise25Second60Skipped() {
        MomentTexts x = withZone(0);
        x.leap(10);
        x.leap(12);
        // A minute before second 60 of day 12 the clock goes forth by an hour.
        long leap = 11 * 86400;
        long other = leap + 2 * 86400 + 1;
        x.change(0, other - 60, 60);
        plus(x, "second 60 that is skipped is 59", leap, 0, 2, other - 1);
        plus(x, "second 59 that is skipped", leap - 1, 0, 2, other - 1);
        plus(x, "second 58 that is skipped", leap - 2, 0, 2, other - 2);
    }

    private static void promise25Edges() {
        MomentTexts x = withZone(0);
        plus(x, "up to the last instant", LAST - 86400, 0, 1, LAST);
        plus(x, "down to the first instant", FIRST + 86400, 0, -1, FIRST);
        plus(x, "by all days", FIRST, 0, (int) (LAST_DAY - FIRST_DAY), LAST - 86399);
        plus(x, "by all days back", LAST, 0, (int) (FIRST_DAY - LAST_DAY), FIRST + 86399);
        plus(x, "by all months", FIRST, 23999987, 30, LAST - 86399);
        plus(x, "a day too many", LAST, 0, 1, Check.ILLEGAL);
        plus(x, "a day too many back", FIRST + 86399, 0, -1, Check.ILLEGAL);
        plus(x, "a month too many", LAST, 1, 0, Check.ILLEGAL);
        plus(x, "a month too many, then days back", LAST, 1, -31, Check.ILLEGAL);
        plus(x, "a month too many back, then days", FIRST, -1, 31, Check.ILLEGAL);
        plus(x, "months of no YEAR", 0, Integer.MAX_VALUE, Integer.MIN_VALUE, Check.ILLEGAL);
        MomentTexts east = withZone(60);
        plus(east, "the local goal is of a YEAR, the instant is not", FIRST + 86399 - 3600, 0, -1, Check.ILLEGAL);
        plus(east, "the first instant again", FIRST + 86400, 0, -1, FIRST);
        plus(east, "the instant would be of a YEAR, the local goal is not", LAST - 86400 - 3599, 0, 1, Check.ILLEGAL);
        plus(east, "the last local one", LAST - 86400 - 3600, 0, 1, LAST - 3600);
        plus(east, "the local start is of no YEAR", LAST - 3599, 0, 0, Check.ILLEGAL);
        MomentTexts west = withZone(-60);
        plus(west, "the local start is of no YEAR", FIRST + 3599, 0, 0, Check.ILLEGAL);
        plus(west, "the first local one", FIRST + 3600, 0, 0, FIRST + 3600);
        plus(west, "the local goal is of a YEAR, the instant is not", LAST - 86400 + 3600, 0, 1, Check.ILLEGAL);
        plus(west, "the last instant again", LAST - 86400, 0, 1, LAST);
    }

    private static void promise25Refused() {
        MomentTexts x = withZone(0);
        for (int zone : NO_ZONES) {
            Check.illegal("no zone " + zone, () -> x.plus(zone, 0, 0, 0));
        }
        for (long instant : NO_INSTANTS) {
            Check.illegal("of no YEAR: " + instant, () -> x.plus(0, instant, 0, 0));
        }
        for (int most : new int[] {Integer.MIN_VALUE, Integer.MAX_VALUE}) {
            Check.illegal(most + " months", () -> x.plus(0, 0, most, 0));
            Check.illegal(most + " days", () -> x.plus(0, 0, 0, most));
            Check.illegal(most + " of both", () -> x.plus(0, 0, most, most));
        }
    }

    private static void between(MomentTexts x, String name, long from, long to, long... want) {
        for (int what = 0; what < 3; what++) {
            int asked = what;
            Check.due(name + ", what " + what, want[what], () -> x.between(0, from, to, asked));
        }
    }

    private static void promise26Whole() {
        MomentTexts x = withZone(0);
        between(x, "the same instant", 5, 5, 0, 0, 0);
        between(x, "a second", 5, 6, 0, 0, 1);
        between(x, "a second less than a day", 5, 86404, 0, 0, 86399);
        between(x, "a day", 5, 86405, 0, 1, 0);
        between(x, "a second more than a day", 5, 86406, 0, 1, 1);
        between(x, "a second less than a month", 5, 31 * 86400 + 4, 0, 30, 86399);
        between(x, "a month", 5, 31 * 86400 + 5, 1, 0, 0);
        between(x, "a month and a day", 5, 32 * 86400 + 5, 1, 1, 0);
        between(x, "a second less than two months", 5, 59 * 86400 + 4, 1, 27, 86399);
        between(x, "a year", at(2023, 7, 1, 0, 0, 0), at(2024, 7, 1, 0, 0, 0), 12, 0, 0);
        between(x, "a second less than a year", at(2023, 7, 1, 0, 0, 0), at(2024, 6, 30, 23, 59, 59), 11, 29, 86399);
        between(x, "before day 0", -86400, 0, 0, 1, 0);
        between(x, "over day 0", -1, 1, 0, 0, 2);
    }

    private static void promise26LastOfMonth() {
        MomentTexts x = withZone(0);
        long from = at(2023, 1, 31, 12, 0, 0);
        between(x, "to the last of February", from, at(2023, 2, 28, 12, 0, 0), 1, 0, 0);
        between(x, "a second less", from, at(2023, 2, 28, 11, 59, 59), 0, 27, 86399);
        between(x, "to the first of March", from, at(2023, 3, 1, 12, 0, 0), 1, 1, 0);
        between(x, "to the 30th of March", from, at(2023, 3, 30, 12, 0, 0), 1, 30, 0);
        between(x, "to the 31st of March", from, at(2023, 3, 31, 12, 0, 0), 2, 0, 0);
        between(x, "to the last of April", from, at(2023, 4, 30, 12, 0, 0), 3, 0, 0);
        between(x, "from a 29th of February", at(2024, 2, 29, 0, 0, 0), at(2025, 2, 28, 0, 0, 0), 12, 0, 0);
    }

    private static void promise26AcrossChanges() {
        MomentTexts x = withZone(0);
        Check.text(x, "CET-1CEST,M3.5.0,M10.5.0/3");
        x.rule(0);
        long forth = at(2024, 3, 31, 1, 0, 0);
        between(x, "a short day", forth - 43200, forth + 39600, 0, 1, 0);
        between(x, "a second less", forth - 43200, forth + 39599, 0, 0, 82799);
        // 02:00 of the day before, and what is skipped of this one: it comes by the OFFSET before, at the change.
        between(x, "into what is skipped", forth - 86400, forth, 0, 1, 0);
        between(x, "just before it", forth - 86400, forth - 1, 0, 0, 86399);
        long back = at(2024, 10, 27, 1, 0, 0);
        between(x, "a long day", back - 43200, back + 46800, 0, 1, 0);
        between(x, "a second less", back - 43200, back + 46799, 0, 0, 89999);
        between(x, "the first of what comes twice", back - 86400 - 1800, back - 1800, 0, 1, 0);
        between(x, "the second of what comes twice", back - 86400 - 1800, back + 1800, 0, 1, 3600);
        between(x, "from the second to itself", back + 1800, back + 1800, 0, 0, 3600);
        between(x, "a month over a change", at(2024, 3, 15, 12, 0, 0), at(2024, 4, 15, 11, 0, 0), 1, 0, 0);
        MomentTexts z = withZone(60);
        between(z, "months of local time", at(2023, 1, 31, 23, 30, 0), at(2023, 2, 28, 23, 30, 0), 1, 0, 0);
    }

    private static void promise26LeapSeconds() {
        MomentTexts x = withZone(0);
        x.leap(0);
        between(x, "a day with a leap second", 0, 86401, 0, 1, 0);
        between(x, "without its last one", 0, 86400, 0, 0, 86400);
        between(x, "from second 60 to a day later's 59", 86400, 86400 + 86400, 0, 1, 0);
        between(x, "up to second 60", -1, 86400, 0, 1, 1);
    }

    private static void promise26Limit() {
        MomentTexts x = withZone(0);
        long days = 30000L * 86400;
        between(x, "30000 days", 0, days, 985, 19, 0);
        between(x, "a second less", 0, days - 1, 985, 18, 86399);
        for (int what = 0; what < 3; what++) {
            int asked = what;
            Check.illegal("a second more", () -> x.between(0, 0, days + 1, asked));
            Check.illegal("a second more, before day 0", () -> x.between(0, -days - 1, 0, asked));
            Check.illegal("all instants", () -> x.between(0, FIRST, LAST, asked));
        }
    }

    private static void promise26Edges() {
        MomentTexts x = withZone(0);
        between(x, "up to the last instant", LAST - 86400, LAST, 0, 1, 0);
        between(x, "the last instant", LAST, LAST, 0, 0, 0);
        between(x, "the first instant", FIRST, FIRST, 0, 0, 0);
        between(x, "a month from the first", FIRST, FIRST + 31 * 86400, 1, 0, 0);
        between(x, "two days up to the end", LAST - 172799, LAST, 0, 1, 86399);
        MomentTexts east = withZone(60);
        // The local goal of a second day more would be of no YEAR, though its instant is not behind the end.
        between(east, "up to the last instant", LAST - 86400 - 3599, LAST, 0, 0, 86400 + 3599);
        for (int what = 0; what < 3; what++) {
            int asked = what;
            Check.illegal("from a local time of no YEAR", () -> east.between(0, LAST - 3599, LAST, asked));
        }
        between(east, "from the last local one", LAST - 3600, LAST, 0, 0, 3600);
    }

    private static void promise26Refused() {
        MomentTexts x = withZone(0);
        for (int zone : NO_ZONES) {
            Check.illegal("no zone " + zone, () -> x.between(zone, 0, 0, 0));
        }
        for (long instant : NO_INSTANTS) {
            Check.illegal("from " + instant, () -> x.between(0, instant, 0, 0));
            Check.illegal("to " + instant, () -> x.between(0, 0, instant, 0));
            Check.illegal("from and to " + instant, () -> x.between(0, instant, instant, 0));
        }
        for (int what : new int[] {-1, 3, Integer.MIN_VALUE, Integer.MAX_VALUE}) {
            Check.illegal("another what, " + what, () -> x.between(0, 0, 1, what));
        }
        for (int what = 0; what < 3; what++) {
            int asked = what;
            Check.illegal("the second one is before the first", () -> x.between(0, 1, 0, asked));
            Check.illegal("the second one is far before the first", () -> x.between(0, LAST, FIRST, asked));
        }
    }
}
