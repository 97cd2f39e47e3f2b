import java.time.Instant;
import java.time.ZoneId;
import java.time.zone.ZoneOffsetTransition;
import java.time.zone.ZoneRules;
import java.util.List;
import java.util.Random;

/** Promises 10, 11, 13 to 15, 25 and 26, in told cases, against java.time and against the model. */
public final class ZonesTest {
    public static void main(String[] args) {
        zones();
        changes();
        likeJavaTime("Europe/Berlin", "CET-1CEST,M3.5.0,M10.5.0/3");
        likeJavaTime("America/New_York", "EST5EDT,M3.2.0,M11.1.0");
        likeJavaTime("Australia/Sydney", "AEST-10AEDT,M10.1.0,M4.1.0/3");
        likeJavaTime("Asia/Kolkata", "<+0530>-5:30");
        ruleBehindChanges();
        ruleBehindAllChanges();
        rulesInTurn();
        ruleDates();
        ruleEdges();
        nextLimit();
        skippedAndTwice();
        changesInARow();
        wholeOnes();
        leapSeconds();
        edges();
        wrongCalls();
        Random random = new Random(3);
        for (int run = 0; run < 70; run++) {
            new RandomZones(random, run).run();
        }
        Check.end();
    }

    private static void zones() {
        MomentTexts x = new MomentTexts();
        Check.illegal("no zone", () -> x.offset(0, 0));
        Check.illegal("an offset too far west", () -> x.zone(-1440));
        Check.illegal("an offset too far east", () -> x.zone(1440));
        Check.illegal("the least offset", () -> x.zone(Integer.MIN_VALUE));
        Check.illegal("the most offset", () -> x.zone(Integer.MAX_VALUE));
        for (int i = 0; i < 8; i++) {
            int offset = i == 0 ? -1439 : i == 1 ? 1439 : 100 * i;
            int number = i;
            Check.due("zone " + i, i, () -> x.zone(offset));
            Check.due("its offset", offset, () -> x.offset(number, 0));
            Check.illegal("the zone behind it", () -> x.offset(number + 1, 0));
            Check.illegal("zone -1", () -> x.offset(-1, 0));
        }
        Check.due("a zone too many", Check.UNSUPPORTED, () -> x.zone(0));
        Check.illegal("a zone too many of no offset", () -> x.zone(1440));
    }

    private static void changes() {
        MomentTexts x = new MomentTexts();
        x.zone(0);
        for (int i = 0; i < 60; i++) {
            int n = i;
            Check.due("change " + i, i + 1, () -> x.change(0, 1000L * n, n));
            Check.illegal("not above the last", () -> x.change(0, 1000L * n, n));
            Check.illegal("below the last", () -> x.change(0, 1000L * n - 1, n));
        }
        Check.due("a change too many", Check.UNSUPPORTED, () -> x.change(0, 100000, 0));
        Check.illegal("a wrong one too many", () -> x.change(0, 59000, 0));
        Check.illegal("a wrong offset too many", () -> x.change(0, 100000, 1440));
        Check.due("the offset before all", 0, () -> x.offset(0, -1));
        for (int i = 0; i < 60; i++) {
            int n = i;
            Check.due("offset at change " + i, i, () -> x.offset(0, 1000L * n));
            Check.due("offset before change " + i, Math.max(0, i - 1), () -> x.offset(0, 1000L * n - 1));
            Check.due("next before change " + i, 1000L * Math.max(n, 1), () -> x.next(0, 1000L * n - 1));
        }
        Check.due("none behind the last", Check.NONE, () -> x.next(0, 59000));
        x.zone(0);
        Check.illegal("offset 1440", () -> x.change(1, 0, 1440));
        Check.illegal("offset -1440", () -> x.change(1, 0, -1440));
        Check.illegal("an instant of no year", () -> x.change(1, Model.LAST_MINUTE * 60 + 60, 0));
        Check.illegal("the most instant", () -> x.change(1, Long.MAX_VALUE, 0));
        Check.illegal("the least instant", () -> x.change(1, Long.MIN_VALUE, 0));
        Check.illegal("zone 2", () -> x.change(2, 0, 0));
        Check.illegal("zone -1", () -> x.change(-1, 0, 0));
        Check.due("none of it stayed", 1, () -> x.change(1, 0, 0));
        Check.due("a change to the same is none", Check.NONE, () -> x.next(1, -1));
    }

    private static void likeJavaTime(String id, String rule) {
        ZoneRules rules = ZoneId.of(id).getRules();
        Random random = new Random(4);
        for (int i = 0; i < 3000; i++) {
            MomentTexts x = new MomentTexts();
            x.zone(1);
            Check.text(x, rule);
            Check.due("the rule of " + id, Check.NONE, () -> x.rule(0));
            long instant = 1230768000L + (long) (random.nextDouble() * 80 * 365 * 86400);
            Instant at = Instant.ofEpochSecond(instant);
            Check.due(id + " at " + at, rules.getOffset(at).getTotalSeconds() / 60, () -> x.offset(0, instant));
            ZoneOffsetTransition next = rules.nextTransition(at);
            Check.due(id + " next of " + at, next == null ? Check.NONE : next.toEpochSecond(),
                () -> x.next(0, instant));
            long local = Math.floorDiv(instant, 60L);
            int valid = rules.getValidOffsets(java.time.LocalDateTime.ofEpochSecond(local * 60, 0,
                java.time.ZoneOffset.UTC)).size();
            Check.due(id + " instants of " + local, valid, () -> x.local(0, local, 7, -1));
        }
    }

    private static void ruleBehindChanges() {
        MomentTexts x = new MomentTexts();
        x.zone(10);
        x.change(0, 1000, 20);
        x.change(0, 2000, 30);
        Check.text(x, "ABC-5");
        Check.due("a rule", Check.NONE, () -> x.rule(0));
        Check.due("before all changes", 10, () -> x.offset(0, 999));
        Check.due("before the last change", 20, () -> x.offset(0, 1999));
        Check.due("from the last change on the rule counts", 300, () -> x.offset(0, 2000));
        Check.due("next is the last change", 2000, () -> x.next(0, 1000));
        Check.text(x, "ABC-0:20");
        Check.due("another rule", Check.NONE, () -> x.rule(0));
        Check.due("it counts", 20, () -> x.offset(0, 2000));
        Check.due("the last change changes nothing now", Check.NONE, () -> x.next(0, 1000));
        Check.text(x, "ABC-24");
        Check.due("a rule with a fault", 4, () -> x.rule(0));
        Check.due("the old one stays", 20, () -> x.offset(0, 2000));
        Check.due("one more change", 3, () -> x.change(0, 3000, 50));
        Check.due("the table counts before it", 30, () -> x.offset(0, 2999));
        Check.due("the rule behind it", 20, () -> x.offset(0, 3000));
    }

    private static void ruleBehindAllChanges() {
        MomentTexts x = new MomentTexts();
        x.zone(0);
        for (int i = 0; i < 60; i++) {
            x.change(0, 1000L * i, 100 + i);
        }
        Check.text(x, "AAA-5BBB,J100,J200");
        Check.due("a rule", Check.NONE, () -> x.rule(0));
        Check.due("before all changes", 0, () -> x.offset(0, -1));
        Check.due("before the last change", 158, () -> x.offset(0, 58999));
        Check.due("at the last change", 300, () -> x.offset(0, 59000));
        Check.due("the last change is the next one", 59000, () -> x.next(0, 58000));
        Check.due("then the rule", x.day(1970, 4, 10) * 86400 - 3 * 3600, () -> x.next(0, 59000));
        x.zone(0);
        x.change(1, x.day(1975, 1, 15) * 86400, 60);
        Check.text(x, "AAA0BBB,M3.1.0,M10.1.0");
        x.rule(1);
        Check.due("the rule does not count before the last change", x.day(1975, 3, 2) * 86400 + 7200,
            () -> x.next(1, x.day(1974, 1, 1) * 86400));
    }

    private static void rulesInTurn() {
        MomentTexts x = new MomentTexts();
        x.zone(0);
        Check.text(x, "AAA0BBB,M3.1.0,M10.1.0");
        x.rule(0);
        long summer = x.day(2024, 7, 1) * 86400;
        Check.due("by the first rule", 60, () -> x.offset(0, summer));
        Check.due("of year 0", 0, () -> x.offset(0, x.day(0, 1, 1) * 86400));
        Check.due("of year 0 in summer", 60, () -> x.offset(0, x.day(0, 7, 1) * 86400));
        Check.text(x, "AAA0BBB,M10.1.0,M3.1.0");
        x.rule(0);
        Check.due("by the second rule", 0, () -> x.offset(0, x.day(0, 7, 1) * 86400));
        Check.due("by the second rule later", 0, () -> x.offset(0, summer));
        Check.text(x, "AAA0BBB,M3.1.0,M10.1.7");
        Check.due("a fault", 21, () -> x.rule(0));
        Check.due("the second rule stays", 0, () -> x.offset(0, summer));
    }

    /** Every date that a rule can have: the second offset begins there and ends an hour before. */
    private static void ruleDates() {
        for (int m = 1; m <= 12; m++) {
            for (int w = 1; w <= 5; w++) {
                for (int d = 0; d <= 6; d++) {
                    ruleDate("M" + m + "." + w + "." + d);
                }
            }
        }
        for (int n = 0; n <= 365; n++) {
            ruleDate(Integer.toString(n));
            if (n > 0) {
                ruleDate("J" + n);
            }
        }
    }

    private static void ruleDate(String date) {
        MomentTexts x = new MomentTexts();
        x.zone(0);
        String rule = "AAA0BBB," + date + "," + date;
        Check.text(x, rule);
        Check.due(rule, Check.NONE, () -> x.rule(0));
        Model.Zone zone = new Model.Zone();
        zone.rule(rule);
        for (int year : new int[] {-999999, -4, 0, 1900, 2000, 2023, 2024, 2028, 999999}) {
            long from = zone.fromMinute(year) * 60;
            String name = rule + " in " + year;
            Check.due(name + " before its end", 60, () -> x.offset(0, from - 3601));
            Check.due(name + " at its end", 0, () -> x.offset(0, from - 3600));
            Check.due(name + " before its beginning", 0, () -> x.offset(0, from - 1));
            Check.due(name + " at its beginning", 60, () -> x.offset(0, from));
        }
    }

    /** A first date behind its year's end: the year's beginning is where the offset changes. */
    private static void ruleEdges() {
        MomentTexts x = new MomentTexts();
        x.zone(0);
        Check.text(x, "AAA0BBB,365/24:30,J200/0");
        x.rule(0);
        for (int year = 2020; year < 2030; year++) {
            long start = x.day(year, 1, 1) * 86400;
            Check.due("the beginning of " + year, start, () -> x.next(0, start - 100 * 86400));
            Check.due("half an hour later", start + 199 * 86400L + (year % 4 == 0 ? 86400 : 0) - 3600,
                () -> x.next(0, start + 1800));
        }
    }

    private static void nextLimit() {
        MomentTexts x = new MomentTexts();
        x.zone(0);
        long limit = 2000L * 86400;
        x.change(0, limit, 60);
        Check.due("2000 days on", Check.NONE, () -> x.next(0, 0));
        Check.due("a second less", limit, () -> x.next(0, 1));
        Check.due("not above itself", Check.NONE, () -> x.next(0, limit));
        x.zone(0);
        // Only leap years have a second offset here: 1896 and 1904 are eight years apart.
        Check.text(x, "AAA0BBB,J60/0,59/1");
        x.rule(1);
        long last = x.next(1, x.instant(x.day(1896, 6, 1) * 1440, 0));
        Check.same("none in 1897 to 1902", Check.NONE, last);
    }

    private static void skippedAndTwice() {
        MomentTexts x = new MomentTexts();
        x.zone(0);
        x.change(0, 36000, 120);
        x.change(0, 41400, 0);
        Check.due("before the gap", 1, () -> x.local(0, 599, 59, -1));
        Check.due("in the gap", 0, () -> x.local(0, 600, 0, -1));
        Check.due("behind the gap: twice", 2, () -> x.local(0, 720, 0, -1));
        Check.due("the first", 36000, () -> x.local(0, 720, 0, 0));
        Check.due("the second", 43200, () -> x.local(0, 720, 0, 1));
        Check.due("no third", Check.NONE, () -> x.local(0, 720, 0, 2));
        Check.due("none of very many", Check.NONE, () -> x.local(0, 720, 0, Integer.MAX_VALUE));
        Check.due("before what comes twice: skipped", 0, () -> x.local(0, 689, 59, -1));
        Check.due("the first of what comes at all", 41400, () -> x.local(0, 690, 0, 0));
        Check.due("to the beginning of the gap", 36000, () -> x.plus(0, 36000 - 86400, 0, 1));
        Check.due("to its end", 41399, () -> x.plus(0, 41399 - 86400, 0, 1));
        Check.due("behind its end", 41400, () -> x.plus(0, 41400 - 86400, 0, 1));
        Check.due("into the gap", 36060, () -> x.plus(0, 601 * 60 - 86400, 0, 1));
        Check.due("onto what comes twice", 36060, () -> x.plus(0, 721 * 60 - 86400, 0, 1));
        Check.due("from the second one, nothing", 36060, () -> x.plus(0, 43260, 0, 0));
        Check.due("between: back to the first of them", 7200, () -> x.between(0, 43260, 43260, 2));
        MomentTexts z = new MomentTexts();
        z.zone(1000);
        for (int i = 0; i < 60; i++) {
            // Each change sets the clock back to the same local minute.
            z.change(0, 600L * (i + 1), 1000 - 10 * (i + 1));
        }
        Check.due("so many times", 61, () -> z.local(0, 1005, 0, -1));
        for (int i = 0; i < 61; i++) {
            int k = i;
            Check.due("the instant " + k, 300 + 600L * k, () -> z.local(0, 1005, 0, k));
        }
    }

    private static void changesInARow() {
        MomentTexts x = new MomentTexts();
        x.zone(0);
        x.change(0, 36000, 60);
        x.change(0, 36001, 180);
        Check.due("skipped by the first", 37800, () -> x.plus(0, 37800 - 86400, 0, 1));
        Check.due("skipped by the second", 39600, () -> x.plus(0, 43200 - 86400, 0, 1));
        Check.due("between the two", 36000, () -> x.plus(0, 39600 - 86400, 0, 1));
    }

    private static void wholeOnes() {
        MomentTexts x = new MomentTexts();
        x.zone(0);
        Check.due("a day", 1, () -> x.between(0, 0, 86400, 1));
        Check.due("a second less", 0, () -> x.between(0, 0, 86399, 1));
        Check.due("no seconds behind a day", 0, () -> x.between(0, 0, 86400, 2));
        Check.due("a month", 1, () -> x.between(0, 0, 31 * 86400, 0));
        Check.due("a second less than a month", 0, () -> x.between(0, 0, 31 * 86400 - 1, 0));
        Check.due("the days of that", 30, () -> x.between(0, 0, 31 * 86400 - 1, 1));
        Check.due("its seconds", 86399, () -> x.between(0, 0, 31 * 86400 - 1, 2));
    }

    private static void leapSeconds() {
        MomentTexts x = new MomentTexts();
        x.leap(100);
        x.zone(60);
        long leap = x.instant(101 * 1440 - 1, 60);
        long minute = 101 * 1440 + 59;
        Check.due("the local second 60", leap, () -> x.local(0, minute, 60, 0));
        Check.due("no second 60 an hour earlier", 0, () -> x.local(0, minute - 60, 60, -1));
        Check.due("no days on", leap, () -> x.plus(0, leap, 0, 0));
        Check.due("a day on it is 59", leap + 86400, () -> x.plus(0, leap, 0, 1));
        Check.due("a day back it is 59", leap - 86401, () -> x.plus(0, leap, 0, -1));
        Check.due("a leap second is behind a day", 1, () -> x.between(0, leap - 86401, leap, 1));
        Check.due("and this is what is left", 1, () -> x.between(0, leap - 86401, leap, 2));
        x.leap(102);
        long other = x.instant(103 * 1440 - 1, 60);
        Check.due("from one to another", other, () -> x.plus(0, leap, 0, 2));
        x.zone(0);
        x.change(1, x.instant(100 * 1440 + 1380, 0), 60);
        Check.due("second 60 behind a change", leap, () -> x.local(1, minute, 60, 0));
        x.zone(0);
        x.change(2, x.instant(103 * 1440 - 10, 0), 30);
        Check.due("second 60 into a gap is 59", x.instant(103 * 1440 - 1, 59), () -> x.plus(2, leap, 0, 2));
    }

    private static void edges() {
        MomentTexts x = new MomentTexts();
        x.zone(60);
        x.zone(-60);
        long first = Model.FIRST_MINUTE * 60;
        long last = Model.LAST_MINUTE * 60 + 59;
        Check.due("a local hour before all instants", 0, () -> x.local(0, Model.FIRST_MINUTE, 0, -1));
        Check.due("the first local one", first, () -> x.local(0, Model.FIRST_MINUTE + 60, 0, 0));
        Check.due("a local hour behind all instants", 0, () -> x.local(1, Model.LAST_MINUTE, 59, -1));
        Check.illegal("a local minute behind all", () -> x.local(0, Model.LAST_MINUTE + 1, 0, -1));
        Check.illegal("a local minute before all", () -> x.local(0, Model.FIRST_MINUTE - 1, 0, -1));
        Check.illegal("from a local time of no year", () -> x.plus(0, last, 0, 0));
        Check.illegal("from a local time of no year back", () -> x.plus(0, last, 0, -1));
        Check.due("from the last local one", last - 3600, () -> x.plus(0, last - 3600, 0, 0));
        Check.illegal("to a local time of no year", () -> x.plus(0, last - 3600, 0, 1));
        Check.due("a day back from there", last - 3600 - 86400, () -> x.plus(0, last - 3600, 0, -1));
        Check.illegal("to a local time of no year at an instant of one", () -> x.plus(0, last - 86400 - 1800, 0, 1));
        Check.illegal("from an instant of no year", () -> x.between(0, first - 1, first + 9, 0));
        Check.illegal("to an instant of no year", () -> x.between(0, last - 7200, last + 1, 0));
        Check.illegal("to a month of no year", () -> x.plus(0, last - 3600, 1, -31));
        Check.illegal("to an instant of no year", () -> x.plus(0, first + 86400 - 3600, 0, -1));
        Check.due("to the first instant", first, () -> x.plus(0, first + 86400, 0, -1));
        Check.illegal("very many months", () -> x.plus(0, 0, Integer.MAX_VALUE, 0));
        Check.illegal("very many days", () -> x.plus(0, 0, 0, Integer.MAX_VALUE));
        Check.illegal("very many months back", () -> x.plus(0, 0, Integer.MIN_VALUE, 0));
        Check.illegal("very many days back", () -> x.plus(0, 0, 0, Integer.MIN_VALUE));
        Check.due("up to the last instant", 10, () -> x.between(0, last - 10 * 86400 - 3600, last, 1));
        Check.due("what is left there", 3600, () -> x.between(0, last - 10 * 86400 - 3600, last, 2));
        Check.illegal("between from a local time of no year", () -> x.between(0, last, last, 0));
        Check.due("no change at the end of all", Check.NONE, () -> x.next(0, last));
        Check.text(x, "AAA0BBB,J1/0,J1/0");
        x.rule(0);
        Check.due("a rule whose second offset is for all the year", Check.NONE, () -> x.next(0, last - 1000 * 86400));
        Check.due("that offset", 60, () -> x.offset(0, last - 1000 * 86400));
        Check.text(x, "AAA0BBB,J1/0,J365/24");
        x.rule(0);
        Check.due("a rule that ends an hour before the year", last - 3599, () -> x.next(0, last - 4000));
        Check.due("no change behind all", Check.NONE, () -> x.next(0, last - 3599));
    }

    private static void wrongCalls() {
        MomentTexts x = new MomentTexts();
        x.zone(0);
        long before = Model.FIRST_MINUTE * 60 - 1;
        long behind = Model.LAST_MINUTE * 60 + 60;
        for (long instant : new long[] {before, behind, Long.MIN_VALUE, Long.MAX_VALUE}) {
            Check.illegal("offset at " + instant, () -> x.offset(0, instant));
            Check.illegal("next of " + instant, () -> x.next(0, instant));
            Check.illegal("plus of " + instant, () -> x.plus(0, instant, 0, 0));
            Check.illegal("between from " + instant, () -> x.between(0, instant, 0, 0));
            Check.illegal("between to " + instant, () -> x.between(0, 0, instant, 0));
        }
        for (int zone : new int[] {-1, 1, 8, Integer.MIN_VALUE, Integer.MAX_VALUE}) {
            Check.illegal("offset of zone " + zone, () -> x.offset(zone, 0));
            Check.illegal("next of zone " + zone, () -> x.next(zone, 0));
            Check.illegal("local of zone " + zone, () -> x.local(zone, 0, 0, 0));
            Check.illegal("plus of zone " + zone, () -> x.plus(zone, 0, 0, 0));
            Check.illegal("between of zone " + zone, () -> x.between(zone, 0, 0, 0));
            Check.illegal("rule of zone " + zone, () -> x.rule(zone));
        }
        Check.illegal("second 61", () -> x.local(0, 0, 61, 0));
        Check.illegal("second -1", () -> x.local(0, 0, -1, 0));
        Check.illegal("k -2", () -> x.local(0, 0, 0, -2));
        Check.illegal("the least k", () -> x.local(0, 0, 0, Integer.MIN_VALUE));
        Check.illegal("the least local minute", () -> x.local(0, Long.MIN_VALUE, 0, 0));
        Check.illegal("the most local minute", () -> x.local(0, Long.MAX_VALUE, 0, 0));
        Check.illegal("between backwards", () -> x.between(0, 1, 0, 0));
        Check.illegal("between -1", () -> x.between(0, 0, 1, -1));
        Check.illegal("between 3", () -> x.between(0, 0, 1, 3));
        long most = 30000L * 86400;
        Check.due("30000 days", 985, () -> x.between(0, 0, most, 0));
        Check.illegal("30000 days and a second", () -> x.between(0, 0, most + 1, 0));
    }

    /** A run of random zones, asked about near their changes. */
    private static final class RandomZones {
        private final Random random;
        private final int run;
        /** Made anew again and again: an object is used for 512 calls. */
        private MomentTexts x = new MomentTexts();
        private String rule = "";
        private final Model model = new Model();
        private final Model.Zone zone = new Model.Zone();
        private final long base;
        private String name;

        RandomZones(Random random, int run) {
            this.random = random;
            this.run = run;
            // The years 1970, 1972, 1900, 2000, 0 and the first and last hundred ones.
            long[] days = {0, 730, -25567, 10957, -719528, -365961662L + 36525, 364522971L - 36525};
            base = days[run % days.length];
        }

        void run() {
            for (int i = random.nextInt(4); i > 0; i--) {
                model.leaps.add(base + random.nextInt(40) - 20);
            }
            zone.first = randomOffset();
            long instant = base * 86400 + random.nextInt(2000000) - 1000000;
            int changes = run % 3 == 0 ? 0 : random.nextInt(6);
            for (int i = 0; i < changes; i++) {
                instant += 1 + random.nextInt(run % 2 == 0 ? 300000 : 8000);
                zone.instants.add(instant);
                zone.offsets.add(randomOffset());
            }
            if (run % 3 != 1) {
                rule = randomRule();
                zone.rule(rule);
            }
            name = "run " + run + " " + rule + " changes " + zone.instants + zone.offsets + " leaps " + model.leaps
                + ": ";
            ask();
        }

        private void makeAnew() {
            x = new MomentTexts();
            for (long day : model.leaps) {
                x.leap(day);
            }
            x.zone(zone.first);
            for (int i = 0; i < zone.instants.size(); i++) {
                x.change(0, zone.instants.get(i), zone.offsets.get(i));
            }
            if (!rule.isEmpty()) {
                Check.text(x, rule);
                Check.due(rule, Check.NONE, () -> x.rule(0));
            }
        }

        private int randomOffset() {
            return random.nextInt(4) == 0 ? random.nextInt(2879) - 1439 : 30 * (random.nextInt(9) - 4);
        }

        private String randomRule() {
            String rule = "AbC" + randomTime();
            if (random.nextInt(5) == 0) {
                return rule;
            }
            return rule + "<+0d>" + randomTime() + "," + randomDate() + "," + randomDate();
        }

        private String randomTime() {
            String[] signs = {"", "+", "-"};
            int hours = random.nextInt(3) == 0 ? random.nextInt(24) : random.nextInt(3);
            return signs[random.nextInt(3)] + hours + (random.nextBoolean() ? ":" + (10 + random.nextInt(50)) : "");
        }

        private String randomDate() {
            String date;
            int kind = random.nextInt(4);
            if (kind == 0) {
                date = "M" + (1 + random.nextInt(12)) + "." + (1 + random.nextInt(5)) + "." + random.nextInt(7);
            } else if (kind == 1) {
                date = "J" + (random.nextBoolean() ? 1 + random.nextInt(365) : 1 + 364 * random.nextInt(2));
            } else if (kind == 2) {
                date = "" + (random.nextBoolean() ? random.nextInt(366) : 365 * random.nextInt(2));
            } else {
                date = random.nextBoolean() ? "J" + (58 + random.nextInt(4)) : "" + (57 + random.nextInt(4));
            }
            int hours = random.nextInt(3) == 0 ? 24 * random.nextInt(2) : random.nextInt(25);
            return random.nextBoolean() ? date : date + "/" + hours + (random.nextBoolean() ? ":" + (10 + random.nextInt(50)) : "");
        }

        private void ask() {
            long start = (base - 40) * 86400;
            List<Long> changes = model.changesIn(zone, start, (base + 420) * 86400);
            for (long change : changes) {
                makeAnew();
                Check.due(name + "next just before", change, () -> x.next(0, change - 1));
                near(change);
            }
            makeAnew();
            for (int i = 0; i < 20; i++) {
                long instant = base * 86400 + (long) ((random.nextDouble() * 900 - 400) * 86400);
                same(instant);
            }
            for (int i = 0; i < changes.size(); i++) {
                long asked = start;
                Check.due(name + "next of " + asked, changes.get(i), () -> x.next(0, asked));
                start = changes.get(i);
            }
        }

        private void near(long change) {
            same(change);
            same(change - 1);
            for (int i = 0; i < 4; i++) {
                long instant = change + random.nextInt(20000) - 10000;
                same(instant);
                long minute = model.minuteAt(change) + (random.nextInt(3) == 0 ? random.nextInt(2880) - 1440
                    : model.offsetAt(zone, change) + random.nextInt(240) - 120);
                locals(minute, random.nextInt(60));
                leapsInto(change, minute);
            }
            for (long day : model.leaps) {
                locals(day * 1440 + 1439 + zone.first, 60);
                same(model.instantOf(day * 1440 + 1439, 60));
            }
        }

        private void locals(long minute, int second) {
            List<Long> found = model.instantsOf(zone, minute, second);
            String asked = name + "local " + minute + " " + second;
            Check.due(asked, found.size(), () -> x.local(0, minute, second, -1));
            for (int k = 0; k <= found.size(); k++) {
                int place = k;
                Check.due(asked + " " + k, k < found.size() ? found.get(k) : Check.NONE,
                    () -> x.local(0, minute, second, place));
            }
        }

        /** Goes on by days so that the local goal is near a change. */
        private void leapsInto(long change, long localGoal) {
            int days = random.nextInt(60) - 20;
            List<Long> starts = model.instantsOf(zone, localGoal - days * 1440L, random.nextInt(60));
            for (long start : starts) {
                Check.due(name + "plus of " + start + " days " + days, model.plus(zone, start, 0, days),
                    () -> x.plus(0, start, 0, days));
                long other = change + random.nextInt(200000) - 100000;
                betweens(Math.min(start, other), Math.max(start, other));
            }
        }

        private void same(long instant) {
            Check.due(name + "offset at " + instant, model.offsetAt(zone, instant), () -> x.offset(0, instant));
            int months = random.nextInt(30) - 10;
            int days = random.nextInt(100) - 50;
            Check.due(name + "plus of " + instant + " " + months + " " + days,
                model.plus(zone, instant, months, days), () -> x.plus(0, instant, months, days));
            betweens(instant, instant + random.nextInt(6000000));
        }

        private void betweens(long from, long to) {
            long[] found = model.between(zone, from, to);
            for (int what = 0; what < 3; what++) {
                int asked = what;
                Check.due(name + "between " + from + " " + to + " " + what, found[what],
                    () -> x.between(0, from, to, asked));
            }
        }
    }
}
