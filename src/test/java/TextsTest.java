import java.util.Random;

/** Promises 12 and 16 to 20: told cases, and random texts against the model. */
public final class TextsTest {
    private static final long NONE = Check.NONE;
    private static final String SIGNS = "0123456789+-:.,TZtz WPYMDHSR/<>Jabc\u0000\u00ff\u00b0";

    public static void main(String[] args) {
        bytes();
        fieldsOfNothing();
        stamps();
        dates();
        times();
        moments();
        durations();
        intervals();
        rules();
        instantsStay();
        Random random = new Random(5);
        for (int run = 0; run < 3000; run++) {
            randomRun(random);
        }
        Check.end();
    }

    private static void bytes() {
        MomentTexts x = new MomentTexts();
        Check.due("an empty text", 0, x::clear);
        Check.illegal("-1 bytes", () -> x.type(0, -1));
        Check.illegal("9 bytes", () -> x.type(0, 9));
        Check.illegal("the least count", () -> x.type(0, Integer.MIN_VALUE));
        Check.illegal("the most count", () -> x.type(0, Integer.MAX_VALUE));
        Check.due("no bytes", 0, () -> x.type(-1, 0));
        for (int i = 1; i <= 14; i++) {
            Check.due("8 bytes more", 8 * i, () -> x.type(0x3132333435363738L, 8));
        }
        Check.due("7 bytes more", 119, () -> x.type(-1, 7));
        Check.due("two more", Check.UNSUPPORTED, () -> x.type(0, 2));
        Check.illegal("nine more", () -> x.type(0, 9));
        Check.due("one more", 120, () -> x.type(0, 1));
        Check.due("none more", 120, () -> x.type(0, 0));
        Check.due("one too many", Check.UNSUPPORTED, () -> x.type(0, 1));
        Check.due("all of them", 120, x::clear);
        Check.due("then none", 0, x::clear);
        Check.due("the lowest bytes first", 4, () -> x.type(0x2D34323032343032L >>> 0, 4));
        Check.due("2042 is a date", NONE, () -> x.read(1));
        Check.due("its year", x.day(2042, 1, 1), () -> x.field(0, 2));
        Check.due("the text stays", 4, x::clear);
        Check.due("OUT is empty", 0, x::pass);
        x.writeDate(0, 0);
        Check.text(x, "something else");
        Check.due("OUT becomes the text", 10, x::pass);
        Check.due("it is a date", NONE, () -> x.read(1));
        Check.due("OUT stays", '1', () -> x.out(0));
        Check.due("more comes behind it", 11, () -> x.type('T', 1));
        Check.illegal("form -1", () -> x.read(-1));
        Check.illegal("form 7", () -> x.read(7));
        Check.illegal("the least form", () -> x.read(Integer.MIN_VALUE));
        Check.illegal("the most form", () -> x.read(Integer.MAX_VALUE));
    }

    private static void fieldsOfNothing() {
        MomentTexts x = new MomentTexts();
        for (int part = 0; part < 3; part++) {
            for (int what = 0; what < 13; what++) {
                int p = part;
                int w = what;
                Check.due("no field " + p + " " + w, NONE, () -> x.field(p, w));
            }
        }
        int[] none = {-1, Integer.MIN_VALUE, Integer.MAX_VALUE};
        for (int i : none) {
            Check.illegal("part " + i, () -> x.field(i, 0));
            Check.illegal("what " + i, () -> x.field(0, i));
        }
        Check.illegal("part 3", () -> x.field(3, 0));
        Check.illegal("what 13", () -> x.field(0, 13));
        Check.illegal("what 13 of part 2", () -> x.field(2, 13));
    }

    private static void read(MomentTexts x, int form, String text, long want) {
        Check.text(x, text);
        Check.due("form " + form + " of " + text, want, () -> x.read(form));
    }

    private static void fields(MomentTexts x, int part, long... want) {
        for (int what = 0; what < want.length; what++) {
            int asked = what;
            Check.due("field " + part + " " + what, want[what], () -> x.field(part, asked));
        }
    }

    private static void stamps() {
        MomentTexts x = new MomentTexts();
        x.leap(17166);
        read(x, 0, "2024-02-29t12:34:56.0123456789-00:00", NONE);
        fields(x, 0, 0, 0, x.day(2024, 2, 29), 754, 56, 12345678, 0, 2, x.day(2024, 2, 29) * 86400 + 45297,
            NONE, NONE, NONE, NONE);
        fields(x, 1, NONE, NONE, NONE);
        read(x, 0, "2024-02-29 24:00:00z", NONE);
        fields(x, 0, 0, 0, x.day(2024, 3, 1), 0, 0, 0, 0, 1, x.instant(x.day(2024, 3, 1) * 1440, 0));
        read(x, 0, "2024-02-30T12:34:56Z", 8);
        read(x, 0, "2024-13-30T12:34:56Z", 5);
        read(x, 0, "2024-00-30T12:34:56Z", 5);
        read(x, 0, "2024-01-00T12:34:56Z", 8);
        read(x, 0, "2024-01-01T24:00:01Z", 11);
        read(x, 0, "2024-01-01T25:00:00Z", 11);
        read(x, 0, "2024-01-01T23:60:00Z", 14);
        read(x, 0, "2024-01-01T23:59:60Z", 17);
        read(x, 0, "2016-12-31T23:59:60+24:00", 17);
        read(x, 0, "2017-01-01T23:59:60+24:00", 17);
        read(x, 0, "2017-01-01T23:58:60+23:59", NONE);
        read(x, 0, "2017-01-01T00:59:60+00:60", 17);
        read(x, 0, "2016-12-31T23:59:60.999Z", NONE);
        read(x, 0, "2016-12-31T23:59:61Z", 17);
        read(x, 0, "2016-12-31T23:58:60Z", 17);
        read(x, 0, "2024-01-01T23:59:59+24:00", 20);
        read(x, 0, "2024-01-01T23:59:59-23:60", 23);
        read(x, 0, "2024-13-01T23:59:59-23:6", 24);
        read(x, 0, "2024-01-01T23:59:59,5Z", 19);
        read(x, 0, "2024-01-01T23:59:59.Z", 20);
        read(x, 0, "2024-01-01T23:59:59", 19);
        read(x, 0, "2024-01-01T23:59:59+0100", 22);
        read(x, 0, "2024-01-01X23:59:59Z", 10);
        read(x, 0, "+002024-01-01T23:59:59Z", 0);
        read(x, 0, "", 0);
        read(x, 0, "2024-01-01T23:59:59ZZ", 20);
    }

    private static void dates() {
        MomentTexts x = new MomentTexts();
        read(x, 1, "2024", NONE);
        fields(x, 0, 1, 3, x.day(2024, 1, 1), NONE, NONE, NONE, NONE, NONE, NONE, NONE, NONE, NONE, NONE);
        read(x, 1, "2024-02", NONE);
        fields(x, 0, 1, 4, x.day(2024, 2, 1));
        read(x, 1, "20240229", NONE);
        fields(x, 0, 1, 0, x.day(2024, 2, 29));
        read(x, 1, "2024-366", NONE);
        fields(x, 0, 1, 2, x.day(2024, 12, 31));
        read(x, 1, "2024060", NONE);
        fields(x, 0, 1, 2, x.day(2024, 2, 29));
        read(x, 1, "2020-W53", NONE);
        fields(x, 0, 1, 5, x.day(2020, 12, 28));
        read(x, 1, "2020W537", NONE);
        fields(x, 0, 1, 1, x.day(2021, 1, 3));
        read(x, 1, "-000001-12-31", NONE);
        fields(x, 0, 1, 0, x.day(-1, 12, 31));
        read(x, 1, "+000000", NONE);
        read(x, 1, "-000000", 0);
        read(x, 1, "-000000-13-01", 0);
        read(x, 1, "+999999-W52-5", NONE);
        fields(x, 0, 1, 1, x.day(999999, 12, 31));
        read(x, 1, "+999999-W52-6", 0);
        read(x, 1, "+999999-W52-8", 12);
        read(x, 1, "+999999-W53-6", 9);
        read(x, 1, "2023-366", 5);
        read(x, 1, "2023000", 4);
        read(x, 1, "20231301", 4);
        read(x, 1, "20230229", 6);
        read(x, 1, "2023-W00", 6);
        read(x, 1, "2023W53", 5);
        read(x, 1, "2023-W52-0", 9);
        read(x, 1, "202", 3);
        read(x, 1, "20240", 5);
        read(x, 1, "202401", 6);
        read(x, 1, "2024-", 5);
        read(x, 1, "2024-0", 6);
        read(x, 1, "2024-01-", 8);
        read(x, 1, "2024-0101", 8);
        read(x, 1, "2024-W01-", 9);
        read(x, 1, "2024-W011", 8);
        read(x, 1, "2024W01-1", 7);
        read(x, 1, "+0020240101", 7);
        read(x, 1, "+002024W01", 7);
        read(x, 1, "+20240", 6);
        read(x, 1, "2024-01-01T", 10);
        read(x, 1, "2024-w01", 5);
        Check.due("the fields of the last good one stay", x.day(999999, 12, 31), () -> x.field(0, 2));
    }

    private static void times() {
        MomentTexts x = new MomentTexts();
        x.leap(0);
        read(x, 2, "T24", NONE);
        fields(x, 0, 2, NONE, NONE, 0, 0, 0, NONE, NONE, NONE, NONE);
        read(x, 2, "24:00:00.0000000001Z", NONE);
        read(x, 2, "24:00:00.000000001Z", 0);
        read(x, 2, "23.999999999", NONE);
        fields(x, 0, 2, NONE, NONE, 1439, 59, 999996400, NONE, NONE, NONE);
        read(x, 2, "T1234,5-0030", NONE);
        fields(x, 0, 2, NONE, NONE, 754, 30, 0, -30, 0, NONE);
        read(x, 2, "123456-00", NONE);
        fields(x, 0, 2, NONE, NONE, 754, 56, 0, 0, 2, NONE);
        read(x, 2, "12+05:30", NONE);
        read(x, 2, "12+0530", NONE);
        read(x, 2, "12:00+0530", 8);
        read(x, 2, "1200+05:30", 7);
        read(x, 2, "12:0030", 5);
        read(x, 2, "1200:30", 4);
        read(x, 2, "23:59:60Z", 6);
        read(x, 2, "23:59z", 5);
        read(x, 2, "T", 1);
        read(x, 2, "t12", 0);
        read(x, 2, "123", 3);
        read(x, 2, "12345", 5);
        read(x, 2, "12.", 3);
        read(x, 2, "12.x", 3);
        read(x, 2, "12Z+01", 3);
        read(x, 2, "99:99:99+99:99", 0);
        read(x, 2, "23:99:99+99:99", 3);
        read(x, 2, "23:59:99+99:99", 6);
        read(x, 2, "23:59:59+99:99", 9);
        read(x, 2, "23:59:59+23:99", 12);
    }

    private static void moments() {
        MomentTexts x = new MomentTexts();
        x.leap(17166);
        read(x, 3, "2016-12-31T23:59:60", NONE);
        fields(x, 0, 3, 0, 17166, 1439, 60, 0, NONE, NONE, NONE, NONE);
        read(x, 3, "20161231T225960-01", NONE);
        fields(x, 0, 3, 0, 17166, 1379, 60, 0, -60, 0, 17166 * 86400 + 86400);
        read(x, 3, "2016366T235960Z", NONE);
        read(x, 3, "2016W526T235960Z", NONE);
        read(x, 3, "2016-366T23:59:60+00:01", 15);
        read(x, 3, "2017-001T00:00:60+00:01", NONE);
        read(x, 3, "+999999-12-31T24", 14);
        read(x, 3, "+999999-12-31T23-01", NONE);
        fields(x, 0, 3, 0, x.day(999999, 12, 31), 1380, 0, 0, -60, 0, NONE);
        read(x, 3, "+999999-W52-6T25", 0);
        read(x, 3, "2024-01-01T12+0530", 16);
        read(x, 3, "2024-01-01T1230", 13);
        read(x, 3, "20240101T12:30", 11);
        read(x, 3, "20240101T12+05:30", 14);
        read(x, 3, "20240101T12+0530", NONE);
        read(x, 3, "2024-01-01T12.5+05:30", NONE);
        read(x, 3, "2024-01T12", 7);
        read(x, 3, "2024T12", 4);
        read(x, 3, "2024-W01T12", 8);
        read(x, 3, "2024W01T12", 7);
        read(x, 3, "2024-01-01", 10);
        read(x, 3, "2024-01-01t12", 10);
        read(x, 3, "2024-01-01TT12", 11);
        read(x, 3, "2024-01-01T", 11);
    }

    private static void durations() {
        MomentTexts x = new MomentTexts();
        read(x, 4, "P999999999Y999999999M999999999DT999999999H999999999M999999999.999999999S", NONE);
        fields(x, 0, 4, NONE, NONE, NONE, NONE, NONE, NONE, NONE, NONE, 12999999987L, 999999999,
            999999999L * 3661, 999999999);
        read(x, 4, "P1.5D", NONE);
        fields(x, 0, 4, NONE, NONE, NONE, NONE, NONE, NONE, NONE, NONE, 0, 1, 43200, 0);
        read(x, 4, "PT0,000000001H", NONE);
        Check.due("a part of hours", 3600, () -> x.field(0, 12));
        read(x, 4, "PT1.9999999999M", NONE);
        Check.due("a part of minutes", 119, () -> x.field(0, 11));
        Check.due("its NANOS", 999999940, () -> x.field(0, 12));
        read(x, 4, "P3W", NONE);
        Check.due("weeks", 21, () -> x.field(0, 10));
        read(x, 4, "P1,0000000001M", NONE);
        read(x, 4, "P1,000000001M", 2);
        read(x, 4, "P3M1.5Y", 6);
        read(x, 4, "P1.5W", 4);
        read(x, 4, "P", 1);
        read(x, 4, "PT", 2);
        read(x, 4, "P1", 2);
        read(x, 4, "P1DT", 4);
        read(x, 4, "P1D1", 3);
        read(x, 4, "P1M1Y", 4);
        read(x, 4, "P1Y1W", 4);
        read(x, 4, "P1W1D", 3);
        read(x, 4, "P1WT1H", 3);
        read(x, 4, "P1.5DT1H", 5);
        read(x, 4, "PT1S1", 4);
        read(x, 4, "PT1D", 3);
        read(x, 4, "P1H", 2);
        read(x, 4, "P1234567890D", 10);
        read(x, 4, "P1.D", 3);
        read(x, 4, "p1D", 0);
        read(x, 4, "P-1D", 1);
        read(x, 4, "P1.5Yx", 5);
    }

    private static void intervals() {
        MomentTexts x = new MomentTexts();
        read(x, 5, "2024-01-01T00Z/20240102T00", NONE);
        fields(x, 0, 3, 0, 19723, 0, 0, 0, 0, 1, 19723 * 86400L, NONE);
        fields(x, 1, 3, 0, 19724, 0, 0, 0, NONE, NONE, NONE, NONE);
        fields(x, 2, NONE, NONE, NONE, NONE);
        read(x, 5, "PT1H/2024-001T00Z", NONE);
        fields(x, 0, 4, NONE, NONE, NONE, NONE, NONE, NONE, NONE, NONE, 0, 0, 3600, 0);
        fields(x, 1, 3, 2, 19723, 0);
        read(x, 5, "P1D/P1D", 4);
        read(x, 5, "2024-13-01T00Z/P1.5Y", 5);
        read(x, 5, "2024-12-01T00Z/P1.5Y", 17);
        read(x, 5, "P1.5Y/2024-13-01T00Z", 2);
        read(x, 5, "2024-13-01T00Z/P1D1", 18);
        read(x, 5, "-000000-01-01T00/P1.5Y", 0);
        read(x, 5, "-000000-01-01T00/2024-13-01T00", 0);
        read(x, 5, "2024-12-01T00Z", 14);
        read(x, 5, "2024-12-01T00Z/", 15);
        read(x, 5, "2024-12-01/2024-12-02", 10);
        read(x, 6, "R/2024-12-01T00Z/P1D", NONE);
        fields(x, 2, NONE, NONE);
        read(x, 6, "R0/P1D/2024-12-01T00Z", NONE);
        fields(x, 2, 0, NONE, NONE, NONE, NONE, NONE, NONE, NONE, NONE, NONE, NONE, NONE, NONE);
        read(x, 6, "R999999999/P1D/2024-12-01T00Z", NONE);
        Check.due("how often", 999999999, () -> x.field(2, 0));
        read(x, 6, "R1234567890/P1D/2024-12-01T00Z", 10);
        read(x, 6, "5/P1D/2024-12-01T00Z", 0);
        read(x, 6, "R5P1D/2024-12-01T00Z", 2);
        read(x, 2, "12", NONE);
        Check.due("how often no more", NONE, () -> x.field(2, 0));
        Check.due("no second part", NONE, () -> x.field(1, 0));
    }

    private static void rule(MomentTexts x, String text, long want) {
        Check.text(x, text);
        Check.due("rule " + text, want, () -> x.rule(0));
    }

    private static void rules() {
        MomentTexts x = new MomentTexts();
        x.zone(0);
        rule(x, "UTC0", NONE);
        rule(x, "", 0);
        rule(x, "UT0", 2);
        rule(x, "UTC", 3);
        rule(x, "abcdefgh+1", NONE);
        rule(x, "abcdefghi+1", 8);
        rule(x, "<a1>1", 3);
        rule(x, "<+-1>1", NONE);
        rule(x, "<12345678>1", NONE);
        rule(x, "<123456789>1", 9);
        rule(x, "<12a", 4);
        rule(x, "ABC+-1", 4);
        rule(x, "ABC123", 5);
        rule(x, "ABC1:5", 6);
        rule(x, "ABC1:60", 5);
        rule(x, "ABC24", 3);
        rule(x, "ABC-24:60", 4);
        rule(x, "ABC1D", 5);
        rule(x, "ABC1DEF", 7);
        rule(x, "ABC1DEF,", 8);
        rule(x, "ABC1DEF,1", 9);
        rule(x, "ABC1DEF,1,", 10);
        rule(x, "ABC1DEF,1,2", NONE);
        rule(x, "ABC1DEF,1,2,", 11);
        rule(x, "ABC1DEF-23:59,J1/24:59,365/0", NONE);
        rule(x, "ABC1DEF24,J0,366", 7);
        rule(x, "ABC1DEF,J0,366", 9);
        rule(x, "ABC1DEF,J365,366", 13);
        rule(x, "ABC1DEF,J365,365/25", 17);
        rule(x, "ABC1DEF,J365,365/24:60", 20);
        rule(x, "ABC1DEF,J365,365/-1", 17);
        rule(x, "ABC1DEF,1234,365", 11);
        rule(x, "ABC1DEF,J,365", 9);
        rule(x, "ABC1DEF,M1.1.0,M12.5.6", NONE);
        rule(x, "ABC1DEF,M01.1.0,M12.5.6", NONE);
        rule(x, "ABC1DEF,M0.1.0,M12.5.6", 9);
        rule(x, "ABC1DEF,M13.0.7,M12.5.6", 9);
        rule(x, "ABC1DEF,M12.0.7,M12.5.6", 12);
        rule(x, "ABC1DEF,M12.6.7,M12.5.6", 12);
        rule(x, "ABC1DEF,M12.5.7,M12.5.6", 14);
        rule(x, "ABC1DEF,M12.55.7,M12.5.6", 13);
        rule(x, "ABC1DEF,m12.5.7,M12.5.6", 8);
        rule(x, "ABC-22:59DEF,1,2", NONE);
        rule(x, "ABC-23DEF,1,2", 4);
        rule(x, "ABC-23DEF,M0.1.1,2", 4);
        rule(x, "ABC-23:00DEF-23:30,1,2", NONE);
        rule(x, "ABC-23:60DEF,1,2", 7);
        rule(x, "ABC23:59DEF,1,2", NONE);
        Check.due("the last good one counts", -1439 + 60, () -> x.offset(0, 86400 * 2 + 43200));
        Check.due("and its text stays", 15, x::clear);
    }

    private static void instantsStay() {
        MomentTexts x = new MomentTexts();
        read(x, 3, "2024-01-01T00:00Z", NONE);
        x.leap(5);
        Check.due("an instant that was told stays", 19723L * 86400, () -> x.field(0, 8));
        Check.due("the text is read anew", NONE, () -> x.read(3));
        Check.due("then it counts the leap day", 19723L * 86400 + 1, () -> x.field(0, 8));
    }

    private static void randomRun(Random random) {
        MomentTexts x = new MomentTexts();
        Model model = new Model();
        for (int i = 0; i < 5; i++) {
            long day = new long[] {17166, 19782, 0, -1, 364522971L}[i];
            x.leap(day);
            model.leaps.add(day);
        }
        x.zone(0);
        TextModel texts = new TextModel(model);
        TextMaker maker = new TextMaker(random);
        for (int i = 0; i < 8; i++) {
            int made = random.nextInt(8);
            String text = maker.make(made);
            for (int changed = random.nextInt(3); changed > 0; changed--) {
                text = spoiled(random, text);
            }
            if (text.length() > 120) {
                text = text.substring(0, 120);
            }
            int form = random.nextInt(6) == 0 ? random.nextInt(8) : made;
            Check.text(x, text);
            String asked = "form " + form + " of " + text;
            if (form == 7) {
                Check.due(asked, TextModel.ruleFault(text), () -> x.rule(0));
                continue;
            }
            Check.due(asked, texts.fault(form, text), () -> x.read(form));
            for (int part = 0; part < 3; part++) {
                fields(x, part, texts.fields[part]);
            }
        }
    }

    private static String spoiled(Random random, String text) {
        int place = random.nextInt(text.length() + 1);
        char sign = SIGNS.charAt(random.nextInt(SIGNS.length()));
        String before = text.substring(0, place);
        String behind = text.substring(Math.min(text.length(), place + 1));
        switch (random.nextInt(5)) {
            case 0:
                return before;
            case 1:
                return before + behind;
            case 2:
                return before + sign + text.substring(place);
            default:
                return before + sign + behind;
        }
    }
}
