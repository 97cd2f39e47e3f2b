import java.util.ArrayList;
import java.util.LinkedHashMap;
import java.util.List;
import java.util.Map;
import java.util.function.ToLongFunction;

/**
 * 'A call that throws changes nothing; of several exceptions the one named first is thrown.' Each refused call is put
 * to an object that holds something of everything; then that must answer all else like one that was never asked so.
 */
public final class RefusedCallsTest {
    private static final long FIRST = -365961662L * 86400;
    private static final long LAST = 364522971L * 86400 + 86399;
    private static final int MIN = Integer.MIN_VALUE;
    private static final int MAX = Integer.MAX_VALUE;

    private static final Map<String, ToLongFunction<MomentTexts>> ILLEGAL = new LinkedHashMap<>();
    private static final Map<String, ToLongFunction<MomentTexts>> UNSUPPORTED = new LinkedHashMap<>();
    private static final Map<String, ToLongFunction<MomentTexts>> OUTSIDE = new LinkedHashMap<>();

    public static void main(String[] args) {
        days();
        instantsAndZones();
        texts();
        writing();
        reckoning();
        outside();
        List<Long> some = answers(some());
        List<Long> full = answers(full());
        ask(ILLEGAL, Check.ILLEGAL, some, full);
        ask(OUTSIDE, Check.OUTSIDE, some, full);
        for (Map.Entry<String, ToLongFunction<MomentTexts>> call : UNSUPPORTED.entrySet()) {
            refuse(call, Check.UNSUPPORTED, full(), full);
        }
        faultsChangeNoZoneAndNoFields(some);
        Check.end();
    }

    private static void ask(Map<String, ToLongFunction<MomentTexts>> calls, long thrown, List<Long> some,
            List<Long> full) {
        for (Map.Entry<String, ToLongFunction<MomentTexts>> call : calls.entrySet()) {
            refuse(call, thrown, some(), some);
            refuse(call, thrown, full(), full);
        }
    }

    private static void refuse(Map.Entry<String, ToLongFunction<MomentTexts>> call, long thrown, MomentTexts x,
            List<Long> want) {
        Check.due(call.getKey(), thrown, () -> call.getValue().applyAsLong(x));
        alike(call.getKey(), want, answers(x));
    }

    private static void alike(String call, List<Long> want, List<Long> got) {
        for (int i = 0; i < want.size(); i++) {
            Check.same("behind '" + call + "' answer " + i, want.get(i), got.get(i));
        }
    }

    /** Something of everything, with room for more. */
    private static MomentTexts some() {
        MomentTexts x = new MomentTexts();
        x.leap(100);
        x.leap(-100);
        x.zone(60);
        x.zone(-60);
        x.change(0, 1000, 120);
        x.change(0, 5000000, 90);
        Check.text(x, "AAA-2BBB,J100,J200");
        x.rule(0);
        Check.text(x, "R5/2024-02-29T12:34:56.789-00:00/P1Y2M3DT4H5M6.7S");
        x.read(6);
        x.writeInstant(123456789, 987654321, -90, 5);
        Check.text(x, "CCC3");
        return x;
    }

    /** As many leap days, zones, changes and bytes as there can be. */
    private static MomentTexts full() {
        MomentTexts x = new MomentTexts();
        for (int i = 0; i < 40; i++) {
            x.leap(10L * i - 200);
        }
        for (int i = 0; i < 8; i++) {
            x.zone(i);
        }
        for (int i = 1; i <= 60; i++) {
            x.change(0, 100000L * i, 10 * i);
        }
        Check.text(x, "20240229T12/P3W");
        x.read(5);
        x.writeDuration(13, 2, 3, 4);
        Check.text(x, "CCC3" + "x".repeat(116));
        return x;
    }

    /** What an object answers to calls that look at all that it holds, those last that change it. */
    private static List<Long> answers(MomentTexts x) {
        List<Long> found = new ArrayList<>();
        for (int part = 0; part < 3; part++) {
            for (int what = 0; what < 13; what++) {
                found.add(x.field(part, what));
            }
        }
        for (int i = 0; i < 40; i++) {
            int place = i;
            found.add(Check.answer(() -> x.out(place)));
        }
        for (long day : new long[] {-300, -101, -100, 0, 100, 101, 300}) {
            found.add(Check.answer(() -> x.instant(day * 1440 + 1439, 60)));
            found.add(x.instant(day * 1440, 0));
        }
        for (int zone = 0; zone < 9; zone++) {
            int asked = zone;
            for (long instant : new long[] {0, 999, 1000, 4999999, 5000000, 6000000, 10000000, 300000000}) {
                found.add(Check.answer(() -> x.offset(asked, instant)));
                found.add(Check.answer(() -> x.next(asked, instant)));
            }
        }
        found.add((long) x.type(0, 0));
        found.add(x.rule(0));
        found.add((long) x.offset(0, 300000000));
        found.add(x.read(1));
        found.add(Check.answer(() -> x.change(0, 7000000, 5)));
        found.add(Check.answer(() -> x.change(1, 0, 5)));
        found.add(Check.answer(() -> x.zone(7)));
        found.add(Check.answer(() -> x.leap(7)));
        found.add((long) x.clear());
        found.add((long) x.pass());
        return found;
    }

    private static void days() {
        ILLEGAL.put("day of year 1000000", x -> x.day(1000000, 1, 1));
        ILLEGAL.put("day of month 13", x -> x.day(2024, 13, 1));
        ILLEGAL.put("day 0", x -> x.day(2024, 1, 0));
        ILLEGAL.put("date of no YEAR", x -> x.date(364522972, 0));
        ILLEGAL.put("date of no what", x -> x.date(0, 10));
        ILLEGAL.put("week 54", x -> x.weekDay(2024, 54, 1));
        ILLEGAL.put("a weekday of no YEAR", x -> x.weekDay(999999, 52, 7));
        ILLEGAL.put("months to no YEAR", x -> x.months(0, MAX));
        ILLEGAL.put("months from no YEAR", x -> x.months(Long.MAX_VALUE, 0));
        ILLEGAL.put("Easter of year -1", x -> x.easter(-1));
    }

    private static void instantsAndZones() {
        ILLEGAL.put("a leap day of no YEAR", x -> x.leap(364522972));
        ILLEGAL.put("a leap day that is one", x -> x.leap(-100));
        UNSUPPORTED.put("a 41st leap day", x -> x.leap(1));
        ILLEGAL.put("a minute of no YEAR", x -> x.instant(Long.MAX_VALUE, 0));
        ILLEGAL.put("a second that is none", x -> x.instant(0, 60));
        ILLEGAL.put("the reading of no YEAR", x -> x.reading(Long.MAX_VALUE, 0));
        ILLEGAL.put("no reading", x -> x.reading(0, 2));
        ILLEGAL.put("a zone of no OFFSET", x -> x.zone(1440));
        UNSUPPORTED.put("a ninth zone", x -> x.zone(0));
        ILLEGAL.put("a change of no zone", x -> x.change(8, 70000000, 0));
        ILLEGAL.put("a change to no OFFSET", x -> x.change(0, 70000000, -1440));
        ILLEGAL.put("a change at no YEAR", x -> x.change(0, Long.MAX_VALUE, 0));
        ILLEGAL.put("a change that is not above", x -> x.change(0, 5000000, 0));
        UNSUPPORTED.put("a 61st change", x -> x.change(0, 70000000, 0));
        ILLEGAL.put("a rule of no zone", x -> x.rule(8));
        ILLEGAL.put("a rule of zone -1", x -> x.rule(-1));
        ILLEGAL.put("the offset of no zone", x -> x.offset(8, 0));
        ILLEGAL.put("the offset at no YEAR", x -> x.offset(0, LAST + 100));
        ILLEGAL.put("local of no zone", x -> x.local(8, 0, 0, 0));
        ILLEGAL.put("local second 61", x -> x.local(0, 0, 61, 0));
        ILLEGAL.put("local k -2", x -> x.local(0, 0, 0, -2));
        ILLEGAL.put("local of no YEAR", x -> x.local(0, Long.MIN_VALUE, 0, 0));
        ILLEGAL.put("next of no zone", x -> x.next(-1, 0));
        ILLEGAL.put("next of no YEAR", x -> x.next(0, FIRST - 100));
    }

    private static void texts() {
        ILLEGAL.put("9 bytes", x -> x.type(-1, 9));
        ILLEGAL.put("-1 bytes", x -> x.type(-1, -1));
        ILLEGAL.put("very few bytes", x -> x.type(-1, MIN));
        UNSUPPORTED.put("byte 121", x -> x.type('x', 1));
        UNSUPPORTED.put("bytes 121 to 128", x -> x.type(-1, 8));
        ILLEGAL.put("form 7", x -> x.read(7));
        ILLEGAL.put("form -1", x -> x.read(-1));
        ILLEGAL.put("part 3", x -> x.field(3, 0));
        ILLEGAL.put("what 13", x -> x.field(0, 13));
    }

    private static void writing() {
        ILLEGAL.put("to write a day of no YEAR", x -> x.writeDate(364522972, 0));
        ILLEGAL.put("to write with style 6", x -> x.writeDate(0, 6));
        ILLEGAL.put("to write an instant of no YEAR", x -> x.writeInstant(LAST + 100, 0, 0, 0));
        ILLEGAL.put("to write a local time of no YEAR", x -> x.writeInstant(LAST, 0, 1439, 0));
        ILLEGAL.put("to write nanos too many", x -> x.writeInstant(0, 1000000000, 0, 0));
        ILLEGAL.put("to write no OFFSET", x -> x.writeInstant(0, 0, 1440, 0));
        ILLEGAL.put("to write ten digits", x -> x.writeInstant(0, 0, 0, 10));
        ILLEGAL.put("to write months too many", x -> x.writeDuration(1000000000, 0, 0, 0));
        ILLEGAL.put("to write days below 0", x -> x.writeDuration(1, -1, 0, 0));
        ILLEGAL.put("to write seconds too many", x -> x.writeDuration(1, 1, 3600000000000L, 0));
        ILLEGAL.put("to write a duration's nanos too many", x -> x.writeDuration(1, 1, 1, 1000000000));
    }

    private static void reckoning() {
        ILLEGAL.put("plus of no zone", x -> x.plus(8, 0, 0, 0));
        ILLEGAL.put("plus of no YEAR", x -> x.plus(0, Long.MIN_VALUE, 0, 0));
        ILLEGAL.put("plus to no YEAR", x -> x.plus(0, 0, MAX, MAX));
        ILLEGAL.put("plus days to no YEAR", x -> x.plus(0, 0, 0, MIN));
        ILLEGAL.put("between of no zone", x -> x.between(8, 0, 0, 0));
        ILLEGAL.put("between of no YEAR", x -> x.between(0, 0, Long.MAX_VALUE, 0));
        ILLEGAL.put("between backwards", x -> x.between(0, 1, 0, 0));
        ILLEGAL.put("between of no what", x -> x.between(0, 0, 1, 3));
        ILLEGAL.put("between too far apart", x -> x.between(0, 0, 30000L * 86400 + 1, 0));
    }

    private static void outside() {
        OUTSIDE.put("byte -1 of OUT", x -> x.out(-1));
        OUTSIDE.put("byte 120 of OUT", x -> x.out(120));
        OUTSIDE.put("the most byte of OUT", x -> x.out(MAX));
    }

    /** A FAULT is no exception, but it changes nothing either. */
    private static void faultsChangeNoZoneAndNoFields(List<Long> some) {
        for (String text : new String[] {"", "A", "AAA-5BBB,J100,J2000", "AAA-5BBB,J100/25,J200", "AAA25", "2024-99",
            "P1.5Y", "R1/P1D/P1D", "2024-02-30T00:00:00Z"}) {
            MomentTexts x = some();
            Check.text(x, text);
            for (int form = 0; form < 7; form++) {
                x.read(form);
            }
            x.rule(0);
            x.rule(1);
            Check.text(x, "CCC3");
            alike("the FAULTS of " + text, some, answers(x));
        }
    }
}
