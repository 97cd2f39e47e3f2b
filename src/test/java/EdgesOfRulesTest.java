/** Promise 12, sentence by sentence, with the words of 'A RULE'. */
public final class EdgesOfRulesTest {
    private static final long NONE = Check.NONE;
    private static final String DATES = ",M3.5.0,M10.5.0";

    public static void main(String[] args) {
        names();
        times();
        secondOffset();
        notTold();
        datesByMonth();
        datesWithout29th();
        datesCounted();
        dateTimes();
        whatGoesOn();
        bytesBeforeNumbers();
        numbersInTheirOrder();
        inPlaceOfOne();
        refused();
        offsetsOfTimes();
        daysOfMonths();
        daysWithout29th();
        daysCounted();
        timesOfDates();
        secondWithinTheYear();
        secondOverTheYearsEnd();
        yearOfFirstOffset();
        Check.end();
    }

    /** Where the FAULT of a text is, in a new object. */
    private static void fault(String text, long want) {
        MomentTexts x = new MomentTexts();
        x.zone(0);
        Check.text(x, text);
        Check.due("the FAULT of " + text, want, () -> x.rule(0));
        Check.due("the TEXT stays", text.length(), x::clear);
    }

    private static void names() {
        fault("AB1", 2);
        fault("ABC1", NONE);
        fault("abcdXYZz1", NONE);
        fault("ABCDEFGHI1", 8);
        fault("<AB>1", 3);
        fault("<ABC>1", NONE);
        fault("<aZ09+-xx>1", NONE);
        fault("<ABCDEFGHI>1", 9);
        fault("<>1", 1);
        fault("AB", 2);
        fault("<AB", 3);
        fault("<ABC", 4);
        fault("<ABCDEFGH", 9);
        fault("ABC>1", 3);
        fault("AB_1", 2);
        fault("<AB:>1", 3);
        fault("@BC1", 0);
        fault("[BC1", 0);
        fault("`BC1", 0);
        fault("{BC1", 0);
        fault("AB\u00c41", 2);
        fault("1", 0);
        fault("", 0);
        fault(" ABC1", 0);
        fault("ABC1DE" + DATES, 6);
        fault("ABC1<DE>" + DATES, 7);
        fault("ABC1DEFGHIJK" + DATES, NONE);
        fault("ABC1DEFGHIJKL" + DATES, 12);
        fault("<+01>-1<+02>" + DATES, NONE);
    }

    private static void times() {
        fault("ABC0", NONE);
        fault("ABC00", NONE);
        fault("ABC23", NONE);
        fault("ABC24", 3);
        fault("ABC99", 3);
        fault("ABC+23:59", NONE);
        fault("ABC-23:59", NONE);
        fault("ABC+24", 4);
        fault("ABC-24:59", 4);
        fault("ABC1:00", NONE);
        fault("ABC1:60", 5);
        fault("ABC1:99", 5);
        fault("ABC01:60", 6);
        fault("ABC1:", 5);
        fault("ABC1:0", 6);
        fault("ABC1:000", 7);
        fault("ABC1:0x", 6);
        fault("ABC000", 5);
        fault("ABC", 3);
        fault("ABC+", 4);
        fault("ABC--1", 4);
        fault("ABC:30", 3);
        fault("ABC1:30:00", 7);
    }

    private static void secondOffset() {
        fault("ABC1DEF0" + DATES, NONE);
        fault("ABC1DEF+23:59" + DATES, NONE);
        fault("ABC1DEF-23:59" + DATES, NONE);
        fault("ABC1DEF24" + DATES, 7);
        fault("ABC1DEF-24" + DATES, 8);
        fault("ABC1DEF0:60" + DATES, 9);
        fault("ABC1DEF+" + DATES, 8);
        fault("ABC1DEF000" + DATES, 9);
        fault("ABC1DEF:30" + DATES, 7);
    }

    /** The second OFFSET is 60 minutes more if it is not told; 1439 is the most. */
    private static void notTold() {
        fault("ABC-22:59DEF" + DATES, NONE);
        fault("ABC-23:00DEF" + DATES, 4);
        fault("ABC-23:59DEF" + DATES, 4);
        fault("ABC-23DEF-23" + DATES, NONE);
        fault("ABC-23:59", NONE);
        fault("ABC+23:59DEF" + DATES, NONE);
        fault("ABC-23:60DEF" + DATES, 7);
        fault("ABC-24DEF" + DATES, 4);
        fault("ABC-23DEF,M0.1.1,1", 4);
        fault("ABC-23DEF", 9);
    }

    private static void datesByMonth() {
        fault("ABC1DEF,M1.1.0,M12.5.6", NONE);
        fault("ABC1DEF,M01.1.0,M09.5.6", NONE);
        fault("ABC1DEF,M0.1.0,M1.1.0", 9);
        fault("ABC1DEF,M00.1.0,M1.1.0", 9);
        fault("ABC1DEF,M13.1.0,M1.1.0", 9);
        fault("ABC1DEF,M001.1.0,M1.1.0", 11);
        fault("ABC1DEF,M1.0.0,M1.1.0", 11);
        fault("ABC1DEF,M1.6.0,M1.1.0", 11);
        fault("ABC1DEF,M1.01.0,M1.1.0", 12);
        fault("ABC1DEF,M1.1.7,M1.1.0", 13);
        fault("ABC1DEF,M1.1.9,M1.1.0", 13);
        fault("ABC1DEF,M1.1.00,M1.1.0", 14);
        fault("ABC1DEF,M1.1,M1.1.0", 12);
        fault("ABC1DEF,M.1.1,M1.1.0", 9);
        fault("ABC1DEF,M1..1,M1.1.0", 11);
        fault("ABC1DEF,m1.1.1,M1.1.0", 8);
        fault("ABC1DEF,M1.1.0,M1.6.0", 18);
    }

    private static void datesWithout29th() {
        fault("ABC1DEF,J1,J365", NONE);
        fault("ABC1DEF,J001,J059", NONE);
        fault("ABC1DEF,J0,J1", 9);
        fault("ABC1DEF,J366,J1", 9);
        fault("ABC1DEF,J999,J1", 9);
        fault("ABC1DEF,J1,J366", 12);
        fault("ABC1DEF,J0001,J1", 12);
        fault("ABC1DEF,J,J1", 9);
        fault("ABC1DEF,j1,J1", 8);
    }

    private static void datesCounted() {
        fault("ABC1DEF,0,365", NONE);
        fault("ABC1DEF,000,059", NONE);
        fault("ABC1DEF,366,0", 8);
        fault("ABC1DEF,999,0", 8);
        fault("ABC1DEF,0,366", 10);
        fault("ABC1DEF,0001,0", 11);
        fault("ABC1DEF,-1,0", 8);
        fault("ABC1DEF,,0", 8);
    }

    private static void dateTimes() {
        fault("ABC1DEF,0/0,1/24", NONE);
        fault("ABC1DEF,0/00:00,1/24:59", NONE);
        fault("ABC1DEF,0/25,1/0", 10);
        fault("ABC1DEF,0/24:60,1/0", 13);
        fault("ABC1DEF,0/,1/0", 10);
        fault("ABC1DEF,0/-1,1/0", 10);
        fault("ABC1DEF,0/+1,1/0", 10);
        fault("ABC1DEF,0/100,1/0", 12);
        fault("ABC1DEF,0/1:0,1/0", 13);
        fault("ABC1DEF,0,1/25", 12);
        fault("ABC1DEF,M1.1.1/25,1", 15);
    }

    private static void whatGoesOn() {
        fault("ABC1,M3.5.0,M10.5.0", 4);
        fault("ABC1DEF", 7);
        fault("ABC1DEF2", 8);
        fault("ABC1DEF,", 8);
        fault("ABC1DEF,0", 9);
        fault("ABC1DEF,0,", 10);
        fault("ABC1DEF,0,1,", 11);
        fault("ABC1DEF,0,1 ", 11);
        fault("ABC1DEF,0;1", 9);
        fault("ABC1\u0000", 4);
        fault("ABC1 DEF,0,1", 4);
        StringBuilder full = new StringBuilder("<ABCDEFGH>-12:34<IJKLMNOP>-13:45,M12.5.6/24:59,M11.4.0/23:58");
        fault(full.toString(), NONE);
        while (full.length() < 120) {
            full.append('0');
        }
        fault(full.toString(), 60);
    }

    private static void bytesBeforeNumbers() {
        fault("ABC24DEF,0,1x", 12);
        fault("ABC24DEF", 8);
        fault("ABC99:99D", 9);
        fault("ABC1DEF,J0,J366/", 16);
        fault("ABC-23DEF,0", 11);
    }

    private static void numbersInTheirOrder() {
        fault("ABC24:60DEF24:60,M13.6.7/25:60,J0", 3);
        fault("ABC23:60DEF24:60,M13.6.7/25:60,J0", 6);
        fault("ABC23:59DEF24:60,M13.6.7/25:60,J0", 11);
        fault("ABC23:59DEF23:60,M13.6.7/25:60,J0", 14);
        fault("ABC23:59DEF23:59,M13.6.7/25:60,J0", 18);
        fault("ABC23:59DEF23:59,M12.6.7/25:60,J0", 21);
        fault("ABC23:59DEF23:59,M12.5.7/25:60,J0", 23);
        fault("ABC23:59DEF23:59,M12.5.6/25:60,J0", 25);
        fault("ABC23:59DEF23:59,M12.5.6/24:60,J0", 28);
        fault("ABC23:59DEF23:59,M12.5.6/24:59,J0", 32);
        fault("ABC23:59DEF23:59,M12.5.6/24:59,J1", NONE);
    }

    private static void rule(MomentTexts x, String text, long want) {
        Check.text(x, text);
        Check.due("rule " + text, want, () -> x.rule(0));
    }

    private static void inPlaceOfOne() {
        MomentTexts x = new MomentTexts();
        x.zone(5);
        x.zone(6);
        rule(x, "ABC-25", 4);
        Check.due("a FAULT and no rule: the first OFFSET", 5, () -> x.offset(0, 0));
        rule(x, "ABC-1", NONE);
        Check.due("the rule counts", 60, () -> x.offset(0, 0));
        Check.due("the other zone has none", 6, () -> x.offset(1, 0));
        rule(x, "ABC-2DEF,0/0,365/24", NONE);
        Check.due("another rule in its place", 180, () -> x.offset(0, 86400 * 9));
        rule(x, "ABC-3DEF,0/0,365/25", 17);
        Check.due("a FAULT: the old rule stays", 180, () -> x.offset(0, 86400 * 9));
        rule(x, "ABC-3DEF,0/0,36x", 15);
        Check.due("a FAULT: the old rule stays", 180, () -> x.offset(0, 86400 * 9));
        rule(x, "ABC-3DEF-5,J200,J100", NONE);
        Check.due("another rule, the same year", 300, () -> x.offset(0, 86400 * 9));
        rule(x, "ABC-3DEF-5,M3.5.0,M10.5.0", NONE);
        Check.due("another rule with other dates, the same year", 180, () -> x.offset(0, 86400 * 9));
        Check.due("and in summer", 300, () -> x.offset(0, 86400 * 180));
        rule(x, "ABC-3DEF-5,59/0,300", NONE);
        Check.due("a rule with dates that are counted", 180, () -> x.offset(0, 86400 * 59 - 10801));
        Check.due("from its first date on", 300, () -> x.offset(0, 86400 * 59 - 10800));
        rule(x, "ABC-4", NONE);
        Check.due("one NAME in place of two", 240, () -> x.offset(0, 86400 * 9));
        Check.due("no changes more", NONE, () -> x.next(0, 0));
    }

    private static void refused() {
        MomentTexts x = new MomentTexts();
        x.zone(5);
        Check.text(x, "ABC-1");
        for (int zone : new int[] {-1, 1, 8, Integer.MIN_VALUE, Integer.MAX_VALUE}) {
            Check.illegal("no zone " + zone, () -> x.rule(zone));
        }
        Check.text(x, "x");
        Check.illegal("no zone, a text with a FAULT", () -> x.rule(1));
        Check.due("nothing changed", 5, () -> x.offset(0, 0));
    }

    private static void offsetAt(String text, int year, int ordinal, int minute, long want) {
        MomentTexts x = new MomentTexts();
        x.zone(777);
        rule(x, text, NONE);
        long instant = ((x.day(year, 1, 1) + ordinal - 1) * 1440 + minute) * 60;
        Check.due(text + " in " + year + ", day " + ordinal + ", minute " + minute, want, () -> x.offset(0, instant));
    }

    private static void offsetsOfTimes() {
        offsetAt("ABC5", 1970, 1, 0, -300);
        offsetAt("ABC+5", 1970, 1, 0, -300);
        offsetAt("ABC-5", 1970, 1, 0, 300);
        offsetAt("ABC-5:30", 1970, 1, 0, 330);
        offsetAt("ABC+0:01", 1970, 1, 0, -1);
        offsetAt("ABC-0", 1970, 1, 0, 0);
        offsetAt("ABC23:59", 1970, 1, 0, -1439);
        offsetAt("ABC-23:59", 1970, 1, 0, 1439);
        offsetAt("ABC5DEF,0/0,365/24", 1970, 100, 0, -240);
        offsetAt("ABC-22:59DEF,0/0,365/24", 1970, 100, 0, 1439);
        offsetAt("ABC5DEF7,0/0,365/24", 1970, 100, 0, -420);
        offsetAt("ABC5DEF-7:15,0/0,365/24", 1970, 100, 0, 435);
    }

    /** The second OFFSET begins with minute 0 of a day, by UTC, and not before. */
    private static void begins(String date, int year, int ordinal) {
        String text = "AAA0BBB-1," + date + "/0," + (ordinal < 300 ? "J350" : "J1");
        offsetAt(text, year, ordinal, -1, 0);
        offsetAt(text, year, ordinal, 0, 60);
    }

    private static void daysOfMonths() {
        // 2023 began with a Sunday, 2024 with a Monday; the 29th of February 2024 was a Thursday.
        begins("M1.1.0", 2023, 1);
        begins("M1.1.6", 2023, 7);
        begins("M1.5.0", 2023, 29);
        begins("M1.5.3", 2023, 25);
        begins("M1.4.3", 2023, 25);
        begins("M1.5.2", 2023, 31);
        begins("M2.1.3", 2023, 32);
        begins("M2.5.2", 2023, 59);
        begins("M2.4.2", 2023, 59);
        begins("M2.5.4", 2024, 60);
        begins("M2.4.4", 2024, 53);
        begins("M2.5.5", 2024, 54);
        begins("M3.1.5", 2024, 61);
        begins("M12.5.0", 2023, 365);
        begins("M12.5.2", 2024, 366);
        begins("M12.5.3", 2024, 360);
    }

    private static void daysWithout29th() {
        begins("J1", 2023, 1);
        begins("J59", 2023, 59);
        begins("J60", 2023, 60);
        begins("J365", 2023, 365);
        begins("J59", 2024, 59);
        begins("J60", 2024, 61);
        begins("J365", 2024, 366);
        begins("J60", 1900, 60);
        begins("J60", 2000, 61);
    }

    private static void daysCounted() {
        // Day 0's minute before is of the year before, in which the second OFFSET has ended.
        begins("0", 2023, 1);
        begins("59", 2023, 60);
        begins("59", 2024, 60);
        begins("60", 2024, 61);
        begins("364", 2023, 365);
        begins("365", 2023, 365);
        begins("364", 2024, 365);
        begins("365", 2024, 366);
        begins("365", 1900, 365);
    }

    private static void timesOfDates() {
        offsetAt("AAA0BBB,J10,J350", 2023, 10, 119, 0);
        offsetAt("AAA0BBB,J10,J350", 2023, 10, 120, 60);
        offsetAt("AAA0BBB,J10/24,J350", 2023, 10, 1439, 0);
        offsetAt("AAA0BBB,J10/24,J350", 2023, 11, 0, 60);
        offsetAt("AAA0BBB,J10/24:59,J350", 2023, 11, 58, 0);
        offsetAt("AAA0BBB,J10/24:59,J350", 2023, 11, 59, 60);
        offsetAt("AAA0BBB,J10/0:01,J350", 2023, 10, 0, 0);
        offsetAt("AAA0BBB,J10/0:01,J350", 2023, 10, 1, 60);
        // The end is told by the second OFFSET: an hour earlier by UTC.
        offsetAt("AAA0BBB,J10,J350", 2023, 350, 59, 60);
        offsetAt("AAA0BBB,J10,J350", 2023, 350, 60, 0);
        // West of UTC by five hours, the beginning is told by the first OFFSET.
        offsetAt("AAA5BBB,J10,J350", 2023, 10, 419, -300);
        offsetAt("AAA5BBB,J10,J350", 2023, 10, 420, -240);
        offsetAt("AAA5BBB,J10,J350", 2023, 350, 359, -240);
        offsetAt("AAA5BBB,J10,J350", 2023, 350, 360, -300);
    }

    private static void secondWithinTheYear() {
        String text = "AAA0BBB,J100/0,J200/0";
        offsetAt(text, 2023, 1, 0, 0);
        offsetAt(text, 2023, 99, 1439, 0);
        offsetAt(text, 2023, 100, 0, 60);
        offsetAt(text, 2023, 199, 1379, 60);
        offsetAt(text, 2023, 199, 1380, 0);
        offsetAt(text, 2023, 365, 1439, 0);
        // The two are a minute apart by UTC, though the second one's clock time is later by an hour and a minute.
        offsetAt("AAA0BBB,J100/0,J100/1:01", 2023, 99, 1439, 0);
        offsetAt("AAA0BBB,J100/0,J100/1:01", 2023, 100, 0, 60);
        offsetAt("AAA0BBB,J100/0,J100/1:01", 2023, 100, 1, 0);
    }

    private static void secondOverTheYearsEnd() {
        String text = "AAA0BBB,J200/0,J100/0";
        offsetAt(text, 2023, 1, 0, 60);
        offsetAt(text, 2023, 99, 1379, 60);
        offsetAt(text, 2023, 99, 1380, 0);
        offsetAt(text, 2023, 199, 1439, 0);
        offsetAt(text, 2023, 200, 0, 60);
        offsetAt(text, 2023, 365, 1439, 60);
        // The same date for both: an hour of the first OFFSET alone.
        offsetAt("AAA0BBB,J100/0,J100/0", 2023, 99, 1379, 60);
        offsetAt("AAA0BBB,J100/0,J100/0", 2023, 99, 1380, 0);
        offsetAt("AAA0BBB,J100/0,J100/0", 2023, 100, 0, 60);
        // The same minute of UTC for both is not later: the second OFFSET counts always.
        offsetAt("AAA0BBB,J100/0,J100/1", 2023, 99, 1439, 60);
        offsetAt("AAA0BBB,J100/0,J100/1", 2023, 100, 0, 60);
    }

    /** The year is that of local time by the first OFFSET, whatever the second one is. */
    private static void yearOfFirstOffset() {
        // The second OFFSET from the beginning of 2024 on: by local time that is an hour before 2024 by UTC.
        String east = "AAA-1BBB-2,J1/0,J100/0";
        offsetAt(east, 2024, 1, -61, 60);
        offsetAt(east, 2024, 1, -60, 120);
        String west = "AAA1BBB0,J1/0,J100/0";
        offsetAt(west, 2024, 1, 59, -60);
        offsetAt(west, 2024, 1, 60, 0);
        // Only in a leap year day 365 is another one than day 364.
        String leap = "AAA0BBB,365/0,J1/0";
        offsetAt(leap, 2023, 364, 1439, 0);
        offsetAt(leap, 2023, 365, 0, 60);
        offsetAt(leap, 2024, 365, 1439, 0);
        offsetAt(leap, 2024, 366, 0, 60);
        // Its end, an hour before the year's beginning, is in no year: it counts to the year's end alone.
        offsetAt(leap, 2024, 366, 1439, 60);
        offsetAt(leap, 2025, 1, 0, 0);
        // A beginning behind its own year's end is in no year either.
        String late = "AAA0BBB,365/24:30,J100/0";
        offsetAt(late, 2024, 1, -1, 0);
        offsetAt(late, 2024, 1, 0, 60);
        offsetAt(late, 2024, 1, 29, 60);
        // Both dates are behind the year's end, the second one later: the second OFFSET is in no year.
        String never = "AAA0BBB1,365/24,365/24:30";
        offsetAt(never, 2024, 1, -1, 0);
        offsetAt(never, 2024, 1, 0, 0);
        offsetAt(never, 2024, 1, 89, 0);
        offsetAt("AAA0BBB,0/0,365/24", 999999, 365, 1439, 0);
        offsetAt("AAA0BBB,0/0,365/24", 999999, 365, 1379, 60);
        offsetAt("AAA-1BBB,0/0,J100", 999999, 365, 1439, 120);
        // The local year of the first instants is the one before YEARS.
        offsetAt("AAA1BBB,J200,365/24:30", -999999, 1, 29, 0);
        offsetAt("AAA1BBB,J200,365/24:30", -999999, 1, 30, -60);
    }
}
