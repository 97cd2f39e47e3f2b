/** Promises 10, 11 and 13 to 15, sentence by sentence, with the words of 'ZONES'. */
public final class EdgesOfZonesTest {
    private static final long FIRST_MINUTE = -365961662L * 1440;
    private static final long LAST_MINUTE = 364522971L * 1440 + 1439;
    private static final long FIRST = FIRST_MINUTE * 60;
    private static final long LAST = LAST_MINUTE * 60 + 59;
    private static final int[] NO_ZONES = {-1, 1, 7, 8, Integer.MIN_VALUE, Integer.MAX_VALUE};
    private static final long[] NO_INSTANTS = {FIRST - 1, LAST + 1, Long.MIN_VALUE, Long.MAX_VALUE};

    public static void main(String[] args) {
        promise10Offsets();
        promise10Full();
        promise11Full();
        promise11Rising();
        promise11Refused();
        promise11ByRule();
        promise13Offsets();
        promise13Refused();
        promise14SkippedAndTwice();
        promise14MidMinute();
        promise14Seconds();
        promise14Edges();
        promise14Refused();
        promise15Changes();
        promise15Limit();
        promise15Rule();
        promise15RuleBehindAllChanges();
        promise15RuleAtYearsEnds();
        promise15Edges();
        promise15Refused();
        Check.end();
    }

    private static MomentTexts withZone(int offset) {
        MomentTexts x = new MomentTexts();
        x.zone(offset);
        return x;
    }

    private static void giveRule(MomentTexts x, int zone, String rule) {
        Check.text(x, rule);
        Check.due("rule " + rule, Check.NONE, () -> x.rule(zone));
    }

    private static void promise10Offsets() {
        MomentTexts x = new MomentTexts();
        for (int offset : new int[] {-1440, 1440, Integer.MIN_VALUE, Integer.MAX_VALUE}) {
            Check.illegal("no OFFSET " + offset, () -> x.zone(offset));
        }
        Check.due("none of these is a zone: the first one", 0, () -> x.zone(-1439));
        Check.due("the second one", 1, () -> x.zone(1439));
        Check.due("its first OFFSET", -1439, () -> x.offset(0, 0));
        Check.due("its first OFFSET", 1439, () -> x.offset(1, 0));
    }

    private static void promise10Full() {
        MomentTexts x = new MomentTexts();
        for (int i = 0; i < 8; i++) {
            int number = i;
            Check.due("zone " + i, i, () -> x.zone(number));
        }
        Check.due("there are 8", Check.UNSUPPORTED, () -> x.zone(0));
        Check.illegal("no OFFSET comes first", () -> x.zone(1440));
        Check.illegal("no OFFSET comes first", () -> x.zone(-1440));
        Check.illegal("the refused one is none", () -> x.offset(8, 0));
        for (int i = 0; i < 8; i++) {
            int number = i;
            Check.due("zone " + i + " stays", i, () -> x.offset(number, 0));
        }
    }

    private static void promise11Full() {
        MomentTexts x = withZone(0);
        x.zone(0);
        for (int i = 1; i <= 60; i++) {
            int count = i;
            Check.due("change " + i, i, () -> x.change(0, count, count));
        }
        Check.due("there are 60", Check.UNSUPPORTED, () -> x.change(0, 61, 0));
        Check.illegal("an instant not above comes first", () -> x.change(0, 60, 0));
        Check.illegal("no offset comes first", () -> x.change(0, 61, 1440));
        Check.illegal("no YEAR comes first", () -> x.change(0, LAST + 1, 0));
        Check.due("the last one stays", 60, () -> x.offset(0, 61));
        Check.due("another zone has its own", 1, () -> x.change(1, 61, 0));
    }

    private static void promise11Rising() {
        MomentTexts x = withZone(0);
        Check.due("the first instant of all", 1, () -> x.change(0, FIRST, -1439));
        Check.illegal("the same instant", () -> x.change(0, FIRST, 0));
        Check.due("one second above", 2, () -> x.change(0, FIRST + 1, 1439));
        Check.illegal("one second below", () -> x.change(0, FIRST, 5));
        Check.due("the last instant of all", 3, () -> x.change(0, LAST, 7));
        Check.illegal("nothing is above that", () -> x.change(0, LAST, 8));
        Check.due("the first counts", -1439, () -> x.offset(0, FIRST));
        Check.due("the second counts", 1439, () -> x.offset(0, FIRST + 1));
        Check.due("up to before the last", 1439, () -> x.offset(0, LAST - 1));
        Check.due("the last counts", 7, () -> x.offset(0, LAST));
    }

    private static void promise11Refused() {
        MomentTexts x = withZone(0);
        for (int zone : NO_ZONES) {
            Check.illegal("no zone " + zone, () -> x.change(zone, 0, 0));
        }
        for (int offset : new int[] {-1440, 1440, Integer.MIN_VALUE, Integer.MAX_VALUE}) {
            Check.illegal("no OFFSET " + offset, () -> x.change(0, 0, offset));
        }
        for (long instant : NO_INSTANTS) {
            Check.illegal("of no YEAR: " + instant, () -> x.change(0, instant, 0));
        }
        Check.due("none of these is a change", 1, () -> x.change(0, 0, 0));
    }

    private static void promise11ByRule() {
        MomentTexts x = withZone(10);
        giveRule(x, 0, "ABC-1");
        Check.due("a rule without changes is for all", 60, () -> x.offset(0, FIRST));
        Check.due("up to the end", 60, () -> x.offset(0, LAST));
        Check.due("a change behind the rule", 1, () -> x.change(0, 1000, 20));
        Check.due("now the first OFFSET counts before it", 10, () -> x.offset(0, 999));
        Check.due("the last change's offset does not count", 60, () -> x.offset(0, 1000));
        Check.due("a change more", 2, () -> x.change(0, 2000, 30));
        Check.due("now the first change's offset counts", 20, () -> x.offset(0, 1999));
        Check.due("and the rule from the second one on", 60, () -> x.offset(0, 2000));
    }

    private static void promise13Offsets() {
        MomentTexts x = withZone(-5);
        x.change(0, 0, 7);
        x.change(0, 1, -5);
        x.change(0, 2, 9);
        long[] want = {-5, -5, 7, -5, 9, 9};
        for (int i = 0; i < want.length; i++) {
            long instant = i - 2;
            Check.due("the OFFSET at " + instant, want[i], () -> x.offset(0, instant));
        }
        Check.due("before all changes", -5, () -> x.offset(0, FIRST));
        Check.due("behind all changes", 9, () -> x.offset(0, LAST));
    }

    private static void promise13Refused() {
        MomentTexts x = withZone(0);
        for (int zone : NO_ZONES) {
            Check.illegal("no zone " + zone, () -> x.offset(zone, 0));
        }
        for (long instant : NO_INSTANTS) {
            Check.illegal("of no YEAR: " + instant, () -> x.offset(0, instant));
        }
        x.leap(0);
        Check.due("with a leap day the last instant is a second later", 0, () -> x.offset(0, LAST + 1));
        Check.illegal("that one alone", () -> x.offset(0, LAST + 2));
    }

    private static void locals(MomentTexts x, int zone, long minute, int second, long... want) {
        String name = "local " + minute + " " + second + ", k ";
        Check.due(name + "-1", want.length, () -> x.local(zone, minute, second, -1));
        for (int k = 0; k < want.length; k++) {
            int asked = k;
            Check.due(name + k, want[k], () -> x.local(zone, minute, second, asked));
        }
        Check.due(name + "too large", Check.NONE, () -> x.local(zone, minute, second, want.length));
        Check.due(name + "the most", Check.NONE, () -> x.local(zone, minute, second, Integer.MAX_VALUE));
    }

    private static void promise14SkippedAndTwice() {
        MomentTexts x = withZone(0);
        x.change(0, 6000, 60);
        x.change(0, 12000, 0);
        locals(x, 0, 99, 59, 5999);
        locals(x, 0, 100, 0);
        locals(x, 0, 159, 59);
        locals(x, 0, 160, 0, 6000);
        locals(x, 0, 199, 59, 8399);
        locals(x, 0, 200, 0, 8400, 12000);
        locals(x, 0, 259, 59, 11999, 15599);
        locals(x, 0, 260, 0, 15600);
        x.zone(0);
        x.change(1, 6000, 60);
        x.change(1, 6000 + 600, 0);
        x.change(1, 6000 + 1200, 60);
        // Forth, back and forth again: what the third change skips can have come behind the first one.
        locals(x, 1, 165, 0, 6300);
        locals(x, 1, 175, 0);
        locals(x, 1, 115, 0, 6900);
        locals(x, 1, 185, 0, 7500);
    }

    private static void promise14MidMinute() {
        MomentTexts x = withZone(0);
        x.change(0, 6030, 60);
        x.change(0, 12030, 0);
        locals(x, 0, 100, 29, 6029);
        locals(x, 0, 100, 30);
        locals(x, 0, 160, 29);
        locals(x, 0, 160, 30, 6030);
        locals(x, 0, 200, 29, 8429);
        locals(x, 0, 200, 30, 8430, 12030);
        locals(x, 0, 260, 29, 12029, 15629);
        locals(x, 0, 260, 30, 15630);
    }

    private static void promise14Seconds() {
        MomentTexts x = withZone(90);
        x.leap(0);
        locals(x, 0, 1439 + 90, 59, 86399);
        locals(x, 0, 1439 + 90, 60, 86400);
        locals(x, 0, 1439, 60);
        locals(x, 0, 0, 60);
        locals(x, 0, 1440 + 90, 0, 86401);
        x.leap(1);
        x.zone(1439);
        x.change(1, 86401 + 100, 0);
        // The two local readings of the one minute have each their own leap second.
        locals(x, 1, 1439 + 1439, 60, 86400);
        locals(x, 1, 2879, 60, 172801);
    }

    private static void promise14Edges() {
        MomentTexts x = withZone(1439);
        x.zone(-1439);
        x.zone(0);
        locals(x, 2, FIRST_MINUTE, 0, FIRST);
        locals(x, 2, LAST_MINUTE, 59, LAST);
        locals(x, 0, FIRST_MINUTE, 0);
        locals(x, 0, FIRST_MINUTE + 1438, 59);
        locals(x, 0, FIRST_MINUTE + 1439, 0, FIRST);
        locals(x, 0, LAST_MINUTE, 59, LAST - 1439 * 60);
        locals(x, 1, FIRST_MINUTE, 0, FIRST + 1439 * 60);
        locals(x, 1, LAST_MINUTE - 1439, 59, LAST);
        locals(x, 1, LAST_MINUTE - 1438, 0);
        locals(x, 1, LAST_MINUTE, 59);
        locals(x, 2, LAST_MINUTE, 60);
        x.leap(364522971L);
        locals(x, 2, LAST_MINUTE, 60, LAST + 1);
    }

    private static void promise14Refused() {
        MomentTexts x = withZone(0);
        for (int zone : NO_ZONES) {
            Check.illegal("no zone " + zone, () -> x.local(zone, 0, 0, -1));
        }
        for (int second : new int[] {-1, 61, Integer.MIN_VALUE, Integer.MAX_VALUE}) {
            Check.illegal("second " + second, () -> x.local(0, 0, second, -1));
        }
        for (int k : new int[] {-2, Integer.MIN_VALUE}) {
            Check.illegal("k " + k, () -> x.local(0, 0, 0, k));
        }
        for (long minute : new long[] {FIRST_MINUTE - 1, LAST_MINUTE + 1, Long.MIN_VALUE, Long.MAX_VALUE}) {
            Check.illegal("minute " + minute, () -> x.local(0, minute, 0, -1));
            Check.illegal("minute " + minute + ", k 0", () -> x.local(0, minute, 0, 0));
        }
        MomentTexts west = withZone(-60);
        Check.illegal("a local minute before YEARS", () -> west.local(0, FIRST_MINUTE - 60, 0, -1));
        MomentTexts east = withZone(60);
        Check.illegal("a local minute behind YEARS", () -> east.local(0, LAST_MINUTE + 60, 0, -1));
    }

    private static void next(MomentTexts x, int zone, long instant, long want) {
        Check.due("next of " + instant, want, () -> x.next(zone, instant));
    }

    private static void promise15Changes() {
        MomentTexts x = withZone(0);
        x.change(0, 100, 60);
        x.change(0, 101, 60);
        x.change(0, 200, 0);
        x.change(0, 300, -30);
        next(x, 0, 99, 100);
        next(x, 0, 100, 200);
        next(x, 0, 101, 200);
        next(x, 0, 199, 200);
        next(x, 0, 200, 300);
        next(x, 0, 300, Check.NONE);
        x.zone(0);
        next(x, 1, 0, Check.NONE);
        x.change(1, 10, 0);
        next(x, 1, 0, Check.NONE);
        x.change(1, 20, 5);
        next(x, 1, 0, 20);
    }

    private static void promise15Limit() {
        MomentTexts x = withZone(0);
        long days = 2000L * 86400;
        x.change(0, 0, 60);
        x.change(0, days, 0);
        next(x, 0, -days, Check.NONE);
        next(x, 0, 1 - days, 0);
        next(x, 0, 0, Check.NONE);
        next(x, 0, 1, days);
        next(x, 0, FIRST, Check.NONE);
        next(x, 0, LAST, Check.NONE);
    }

    private static void promise15Rule() {
        MomentTexts x = withZone(0);
        giveRule(x, 0, "AAA0BBB,J100/0,J200/0");
        long second = (99L * 1440) * 60;
        long first = (199L * 1440 - 60) * 60;
        next(x, 0, 0, second);
        next(x, 0, second - 1, second);
        next(x, 0, second, first);
        next(x, 0, first, second + 365 * 86400L);
        x.zone(0);
        giveRule(x, 1, "AAA-1");
        next(x, 1, 0, Check.NONE);
        x.change(1, 50, 0);
        next(x, 1, 0, 50);
        next(x, 1, 50, Check.NONE);
        x.zone(60);
        giveRule(x, 2, "AAA-1");
        x.change(2, 50, 0);
        // From the change on the rule counts, and that has the OFFSET which was there before.
        next(x, 2, 0, Check.NONE);
        x.zone(0);
        giveRule(x, 3, "AAA0BBB,J100/0,J200/0");
        x.change(3, second + 1, 0);
        next(x, 3, 0, second + 1);
        next(x, 3, second + 1, first);
        x.zone(0);
        giveRule(x, 4, "AAA0BBB0,J100/0,J200/0");
        next(x, 4, 0, Check.NONE);
        x.zone(0);
        giveRule(x, 5, "AAA0BBB1,365/24,365/24:30");
        next(x, 5, 0, Check.NONE);
    }

    /** What the rule would do before the last change does not count. */
    private static void promise15RuleBehindAllChanges() {
        MomentTexts x = withZone(0);
        giveRule(x, 0, "AAA0BBB,J100/0,J200/0");
        long second = (99L * 1440) * 60;
        long first = (199L * 1440 - 60) * 60;
        for (int i = 1; i <= 60; i++) {
            x.change(0, first + i, 0);
        }
        next(x, 0, 0, second + 365 * 86400L);
        next(x, 0, first, second + 365 * 86400L);
        next(x, 0, first + 60, second + 365 * 86400L);
    }

    private static void promise15RuleAtYearsEnds() {
        MomentTexts x = withZone(0);
        // East of UTC by five hours: the year begins so much earlier. Its first date is behind the year's end.
        giveRule(x, 0, "AAA-5BBB,365/24:30,J200/0");
        long begin = -5 * 3600;
        long end = 199L * 86400 - 6 * 3600;
        next(x, 0, begin - 1, begin);
        next(x, 0, begin - 100 * 86400, begin);
        next(x, 0, begin, end);
        next(x, 0, 0, end);
        next(x, 0, end, begin + 365L * 86400);
        x.zone(0);
        // West of UTC: the second date is before the year's beginning, by UTC.
        giveRule(x, 1, "AAA5BBB,J200/0,0/0");
        begin = 5 * 3600;
        long from = 199L * 86400 + 5 * 3600;
        next(x, 1, 0, begin);
        next(x, 1, begin, from);
        next(x, 1, from, begin + 365L * 86400);
        x.zone(0);
        // 1972 has a day 365 of its own. In the years round it that is day 364, and both minutes are the same: then
        // the second OFFSET counts always.
        giveRule(x, 2, "AAA0BBB,364/0,365/1");
        next(x, 2, 0, 730L * 86400);
        next(x, 2, 730L * 86400, (730L + 364) * 86400);
        next(x, 2, (730L + 364) * 86400, (730L + 365) * 86400);
        next(x, 2, (730L + 365) * 86400, (730L + 366) * 86400);
        next(x, 2, (730L + 366) * 86400, (730L + 1461) * 86400);
    }

    private static void promise15Edges() {
        MomentTexts x = withZone(0);
        x.change(0, FIRST, 5);
        x.change(0, FIRST + 1, 10);
        x.change(0, LAST, 20);
        next(x, 0, FIRST, FIRST + 1);
        next(x, 0, FIRST + 1, Check.NONE);
        next(x, 0, LAST - 1, LAST);
        next(x, 0, LAST, Check.NONE);
        x.zone(0);
        // The second OFFSET ends with the year: the next change would be of no YEAR.
        giveRule(x, 1, "AAA0BBB,J1/1,J365/24");
        next(x, 1, LAST - 3600, LAST - 3599);
        next(x, 1, LAST - 3599, Check.NONE);
        giveRule(x, 1, "AAA0BBB,J365/23,J365/22");
        next(x, 1, LAST - 10800, LAST - 10799);
        next(x, 1, LAST - 10799, LAST - 3599);
        next(x, 1, LAST - 3599, Check.NONE);
    }

    private static void promise15Refused() {
        MomentTexts x = withZone(0);
        for (int zone : NO_ZONES) {
            Check.illegal("no zone " + zone, () -> x.next(zone, 0));
        }
        for (long instant : NO_INSTANTS) {
            Check.illegal("of no YEAR: " + instant, () -> x.next(0, instant));
        }
    }
}
