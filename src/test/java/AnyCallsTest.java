import java.util.ArrayList;
import java.util.List;
import java.util.Random;
import java.util.function.LongSupplier;

/**
 * Any calls with any arguments: none throws anything but what the document names (Check ends the test on any other
 * exception), and those that throw change nothing. That is seen by two objects that get the same calls, the second
 * one only those that did not throw: both must answer alike to the end. Promise 1 too: a new object is empty, and no
 * object has to do with another one.
 */
public final class AnyCallsTest {
    private static final long[] EDGES = {0, 1, -1, 2, 7, 8, 9, 12, 13, 31, 32, 59, 60, 61, 120, 1439, 1440, -1439, -1440,
        86399, 86400, 999999, -999999, 1000000, 9999, 10000, 999999999, 1000000000, 364522971L, 364522972L,
        -365961662L, -365961663L, 524913078239L, 524913078240L, -526984793280L, -526984793281L, 31494784694399L,
        31494784694400L, 31494784694401L, -31619087596800L, -31619087596801L, Integer.MAX_VALUE, Integer.MIN_VALUE,
        Long.MAX_VALUE, Long.MIN_VALUE, Long.MAX_VALUE - 1, Long.MIN_VALUE + 1, 3599999999999L, 3600000000000L};

    public static void main(String[] args) {
        Random random = new Random(7);
        MomentTexts bystander = new MomentTexts();
        for (int run = 0; run < 1000; run++) {
            oneRun(random);
        }
        Check.due("a bystander has no zones", 0, () -> bystander.zone(0));
        Check.due("a bystander has no leap days", 1, () -> bystander.leap(0));
        Check.due("a bystander has no text", 0, bystander::clear);
        Check.due("a bystander has no OUT", 0, bystander::pass);
        Check.due("a bystander has no fields", Check.NONE, () -> bystander.field(0, 0));
        Check.end();
    }

    private static void oneRun(Random random) {
        MomentTexts x = new MomentTexts();
        MomentTexts twin = new MomentTexts();
        TextMaker maker = new TextMaker(random);
        for (int i = 0; i < 240; i++) {
            if (random.nextInt(12) == 0) {
                String text = maker.make(random.nextInt(8));
                String some = text.length() > 120 ? "" : text;
                Check.text(x, some);
                Check.text(twin, some);
                continue;
            }
            long[] a = {number(random), number(random), number(random), number(random)};
            int call = random.nextInt(26);
            long got = Check.answer(calls(x, a).get(call));
            boolean threw = got == Check.ILLEGAL || got == Check.UNSUPPORTED || got == Check.OUTSIDE;
            if (!threw) {
                Check.due("call " + call, got, calls(twin, a).get(call));
            }
        }
    }

    private static long number(Random random) {
        switch (random.nextInt(6)) {
            case 0:
                return EDGES[random.nextInt(EDGES.length)];
            case 1:
                return random.nextLong() >> random.nextInt(64);
            case 2:
                return random.nextInt(200000000);
            case 3:
                return random.nextInt(121) - 20;
            default:
                return random.nextInt(9);
        }
    }

    private static List<LongSupplier> calls(MomentTexts x, long[] a) {
        int[] n = {(int) a[0], (int) a[1], (int) a[2], (int) a[3]};
        List<LongSupplier> calls = new ArrayList<>();
        calls.add(() -> x.day(n[0], n[1], n[2]));
        calls.add(() -> x.date(a[0], n[1]));
        calls.add(() -> x.weekDay(n[0], n[1], n[2]));
        calls.add(() -> x.months(a[0], n[1]));
        calls.add(() -> x.easter(n[0]));
        calls.add(() -> x.leap(a[0]));
        calls.add(() -> x.instant(a[0], n[1]));
        calls.add(() -> x.reading(a[0], n[1]));
        calls.add(() -> x.zone(n[0]));
        calls.add(() -> x.change(n[0], a[1], n[2]));
        calls.add(() -> x.rule(n[0]));
        calls.add(() -> x.offset(n[0], a[1]));
        calls.add(() -> x.local(n[0], a[1], n[2], n[3]));
        calls.add(() -> x.next(n[0], a[1]));
        calls.add(() -> x.type(a[0], n[1]));
        calls.add(x::pass);
        calls.add(x::clear);
        calls.add(() -> x.read(n[0]));
        calls.add(() -> x.field(n[0], n[1]));
        calls.add(() -> x.writeDate(a[0], n[1]));
        calls.add(() -> x.writeInstant(a[0], n[1], n[2], n[3]));
        calls.add(() -> x.writeDuration(a[0], a[1], a[2], n[3]));
        calls.add(() -> x.out(n[0]));
        calls.add(() -> x.plus(n[0], a[1], n[2], n[3]));
        calls.add(() -> x.between(n[0], a[1], a[1] + (a[2] >>> 30), n[3]));
        calls.add(() -> x.between(n[0], a[1], a[2], n[3]));
        return calls;
    }
}
