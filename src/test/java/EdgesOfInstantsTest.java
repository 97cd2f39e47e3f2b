/** Promises 7 to 9, sentence by sentence, with the words of 'INSTANTS'. */
public final class EdgesOfInstantsTest {
    private static final long FIRST_DAY = -365961662;
    private static final long LAST_DAY = 364522971;
    private static final long FIRST_MINUTE = FIRST_DAY * 1440;
    private static final long LAST_MINUTE = LAST_DAY * 1440 + 1439;
    private static final long FIRST = FIRST_MINUTE * 60;
    private static final long LAST = LAST_MINUTE * 60 + 59;

    public static void main(String[] args) {
        promise7Full();
        promise7Refused();
        promise7AnyOrder();
        promise8Minutes();
        promise8Seconds();
        promise8LeapDaysFromDay0();
        promise8LeapDaysBeforeDay0();
        promise8Refused();
        promise9Readings();
        promise9RoundSecond60();
        promise9Edges();
        promise9EdgesWithLeapDays();
        toldInstantsStay();
        Check.end();
    }

    private static void promise7Full() {
        MomentTexts x = new MomentTexts();
        for (int i = 1; i <= 40; i++) {
            int count = i;
            Check.due("leap day " + i, i, () -> x.leap(10L * count));
        }
        Check.due("there are 40", Check.UNSUPPORTED, () -> x.leap(5));
        Check.due("there are still 40", Check.UNSUPPORTED, () -> x.leap(6));
        Check.illegal("one of no YEAR comes first", () -> x.leap(LAST_DAY + 1));
        Check.illegal("one that is one comes first, the first", () -> x.leap(10));
        Check.illegal("one that is one comes first, the last", () -> x.leap(400));
        Check.due("the refused ones count nothing", 86400 * 1000 + 40, () -> x.instant(1440 * 1000, 0));
        Check.illegal("the refused one is none", () -> x.instant(5 * 1440 + 1439, 60));
    }

    private static void promise7Refused() {
        MomentTexts x = new MomentTexts();
        Check.illegal("a day before YEARS", () -> x.leap(FIRST_DAY - 1));
        Check.illegal("a day behind YEARS", () -> x.leap(LAST_DAY + 1));
        Check.illegal("the least day", () -> x.leap(Long.MIN_VALUE));
        Check.illegal("the most day", () -> x.leap(Long.MAX_VALUE));
        Check.illegal("a day far above", () -> x.leap(1L << 32));
        Check.due("the first day of YEARS", 1, () -> x.leap(FIRST_DAY));
        Check.due("the last day of YEARS", 2, () -> x.leap(LAST_DAY));
        Check.illegal("the first day again", () -> x.leap(FIRST_DAY));
        Check.illegal("the last day again", () -> x.leap(LAST_DAY));
        Check.due("none of the refused ones counts", 3, () -> x.leap(0));
    }

    private static void promise7AnyOrder() {
        MomentTexts x = new MomentTexts();
        Check.due("a late one", 1, () -> x.leap(500));
        Check.due("an earlier one", 2, () -> x.leap(3));
        Check.due("one between", 3, () -> x.leap(100));
        Check.due("neighbours", 4, () -> x.leap(101));
        Check.due("behind the earliest", 4 * 86400 + 1, () -> x.instant(4 * 1440, 0));
        Check.due("second 60 of a neighbour", 102 * 86400 + 2, () -> x.instant(102 * 1440 - 1, 60));
        Check.due("behind both", 102 * 86400 + 3, () -> x.instant(102 * 1440, 0));
        Check.due("behind all", 501 * 86400 + 4, () -> x.instant(501 * 1440, 0));
    }

    private static void promise8Minutes() {
        MomentTexts x = new MomentTexts();
        Check.due("minute 0", 0, () -> x.instant(0, 0));
        Check.due("its last second", 59, () -> x.instant(0, 59));
        Check.due("minute -1", -60, () -> x.instant(-1, 0));
        Check.due("the second before minute 0", -1, () -> x.instant(-1, 59));
        Check.due("the first minute of YEARS", FIRST, () -> x.instant(FIRST_MINUTE, 0));
        Check.due("the last minute of YEARS", LAST, () -> x.instant(LAST_MINUTE, 59));
    }

    private static void promise8Seconds() {
        MomentTexts x = new MomentTexts();
        x.leap(1);
        x.leap(-1);
        Check.due("second 60 of a leap day's last minute", 172800, () -> x.instant(2879, 60));
        Check.illegal("second 61 of it", () -> x.instant(2879, 61));
        Check.illegal("second 60 of the minute before it", () -> x.instant(2878, 60));
        Check.illegal("second 60 of the minute behind it", () -> x.instant(2880, 60));
        Check.illegal("second 60 of a leap day's first minute", () -> x.instant(1440, 60));
        Check.illegal("second 60 of the day before", () -> x.instant(1439, 60));
        Check.illegal("second 60 of the day behind", () -> x.instant(4319, 60));
        // Minute -1 is of day -1, rounded down, not of day 0.
        Check.due("second 60 of minute -1", -1, () -> x.instant(-1, 60));
        Check.illegal("second 60 of minute -1441, of day -2", () -> x.instant(-1441, 60));
        Check.illegal("second 60 of minute -1440, the first of day -1", () -> x.instant(-1440, 60));
    }

    private static void promise8LeapDaysFromDay0() {
        MomentTexts x = new MomentTexts();
        x.leap(0);
        Check.due("a leap day counts not for itself", 86399, () -> x.instant(1439, 59));
        Check.due("its second 60", 86400, () -> x.instant(1439, 60));
        Check.due("it counts for the day behind it", 86401, () -> x.instant(1440, 0));
        Check.due("day 0 as leap day does nothing to minute 0", 0, () -> x.instant(0, 0));
        Check.due("nor before", -60, () -> x.instant(-1, 0));
        Check.due("it counts up to the end of YEARS", LAST + 1, () -> x.instant(LAST_MINUTE, 59));
    }

    private static void promise8LeapDaysBeforeDay0() {
        MomentTexts x = new MomentTexts();
        x.leap(-2);
        Check.due("a leap day counts not for the day behind it", -86400, () -> x.instant(-1440, 0));
        Check.due("its second 60", -86401, () -> x.instant(-1441, 60));
        Check.due("it counts for itself", -86402, () -> x.instant(-1441, 59));
        Check.due("from its beginning", -2 * 86400 - 1, () -> x.instant(-2880, 0));
        Check.due("and for the day before it", -2 * 86400 - 2, () -> x.instant(-2881, 59));
        Check.due("it counts down to the beginning of YEARS", FIRST - 1, () -> x.instant(FIRST_MINUTE, 0));
        Check.due("not behind day 0", 86400, () -> x.instant(1440, 0));
    }

    private static void promise8Refused() {
        MomentTexts x = new MomentTexts();
        x.leap(LAST_DAY);
        Check.illegal("a minute before YEARS", () -> x.instant(FIRST_MINUTE - 1, 59));
        Check.illegal("a minute behind YEARS", () -> x.instant(LAST_MINUTE + 1, 0));
        Check.illegal("the least minute", () -> x.instant(Long.MIN_VALUE, 0));
        Check.illegal("the most minute", () -> x.instant(Long.MAX_VALUE, 0));
        // 60 times this, in 64 bits, is 0.
        Check.illegal("a minute that wraps around", () -> x.instant(1L << 62, 0));
        Check.due("the last second of all", LAST + 1, () -> x.instant(LAST_MINUTE, 60));
        Check.illegal("second -1", () -> x.instant(0, -1));
        Check.illegal("second 60 of no leap day", () -> x.instant(1439, 60));
        Check.illegal("the least second", () -> x.instant(0, Integer.MIN_VALUE));
        Check.illegal("the most second", () -> x.instant(0, Integer.MAX_VALUE));
    }

    private static void reading(MomentTexts x, String name, long instant, long minute, long second) {
        Check.due(name + ": minute", minute, () -> x.reading(instant, 0));
        Check.due(name + ": second", second, () -> x.reading(instant, 1));
    }

    private static void promise9Readings() {
        MomentTexts x = new MomentTexts();
        reading(x, "instant 0", 0, 0, 0);
        reading(x, "instant 59", 59, 0, 59);
        reading(x, "instant 60", 60, 1, 0);
        reading(x, "instant -1", -1, -1, 59);
        reading(x, "instant -60", -60, -1, 0);
        reading(x, "instant -61", -61, -2, 59);
        for (int what : new int[] {-1, 2, Integer.MIN_VALUE, Integer.MAX_VALUE}) {
            Check.illegal("another what, " + what, () -> x.reading(0, what));
        }
    }

    private static void promise9RoundSecond60() {
        MomentTexts x = new MomentTexts();
        x.leap(0);
        x.leap(-1);
        reading(x, "before second 60 of day 0", 86399, 1439, 59);
        reading(x, "second 60 of day 0", 86400, 1439, 60);
        reading(x, "behind it", 86401, 1440, 0);
        reading(x, "a minute behind it", 86461, 1441, 0);
        reading(x, "before second 60 of day -1", -2, -1, 59);
        reading(x, "second 60 of day -1", -1, -1, 60);
        reading(x, "behind it", 0, 0, 0);
        reading(x, "the first second of day -1", -86401, -1440, 0);
        reading(x, "the second before day -1", -86402, -1441, 59);
    }

    private static void promise9Edges() {
        MomentTexts x = new MomentTexts();
        reading(x, "the first instant", FIRST, FIRST_MINUTE, 0);
        reading(x, "the last instant", LAST, LAST_MINUTE, 59);
        for (int what = 0; what < 2; what++) {
            int asked = what;
            Check.illegal("an instant before YEARS", () -> x.reading(FIRST - 1, asked));
            Check.illegal("an instant behind YEARS", () -> x.reading(LAST + 1, asked));
            Check.illegal("the least instant", () -> x.reading(Long.MIN_VALUE, asked));
            Check.illegal("the most instant", () -> x.reading(Long.MAX_VALUE, asked));
        }
    }

    private static void promise9EdgesWithLeapDays() {
        MomentTexts x = new MomentTexts();
        for (int i = 0; i < 20; i++) {
            x.leap(LAST_DAY - i);
            x.leap(FIRST_DAY + i);
        }
        reading(x, "the first instant of 20 leap days", FIRST - 20, FIRST_MINUTE, 0);
        Check.illegal("the instant before it", () -> x.reading(FIRST - 21, 0));
        reading(x, "second 60 of the first day", FIRST - 20 + 86400, FIRST_MINUTE + 1439, 60);
        reading(x, "the last instant of 20 leap days", LAST + 20, LAST_MINUTE, 60);
        Check.illegal("the instant behind it", () -> x.reading(LAST + 21, 0));
        reading(x, "second 60 of the day before the last", LAST + 20 - 86401, LAST_MINUTE - 1440, 60);
    }

    private static void toldInstantsStay() {
        MomentTexts x = new MomentTexts();
        x.zone(0);
        x.change(0, 100000, 60);
        Check.text(x, "1970-01-02T03:46:40Z");
        x.read(0);
        x.writeInstant(100000, 0, 0, 0);
        x.leap(0);
        Check.due("the change stays at its number", 100000, () -> x.next(0, 0));
        Check.due("the offset before it", 0, () -> x.offset(0, 99999));
        Check.due("the offset from it on", 60, () -> x.offset(0, 100000));
        Check.due("the field stays", 100000, () -> x.field(0, 8));
        Check.same("OUT stays", "1970-01-02T03:46:40Z", Check.out(x, 20));
        Check.due("the same number is a second earlier now", 39, () -> x.reading(100000, 1));
        Check.due("a change at an equal number is not above it", Check.ILLEGAL, () -> x.change(0, 100000, 0));
        x.leap(-1);
        Check.due("nor is it moved by leap days before day 0", 60, () -> x.offset(0, 100000));
    }
}
