import java.time.DateTimeException;
import java.time.LocalDate;
import java.time.temporal.IsoFields;
import java.math.BigDecimal;
import java.math.RoundingMode;
import java.util.ArrayList;
import java.util.Arrays;
import java.util.List;
import java.util.regex.Matcher;
import java.util.regex.Pattern;

/**
 * The forms of the texts as regular expressions. How far a text goes on is asked of the matcher: a text that is not
 * whole, but of which the matcher wanted to see more, goes on.
 */
final class TextModel {
    private static final String WHOLE_DASHED = "(?:\\d{4}|[+-]\\d{6})-(?:\\d\\d-\\d\\d|\\d{3}|W\\d\\d-\\d)";
    private static final String WHOLE_PLAIN = "\\d{4}(?:\\d{4}|\\d{3}|W\\d\\d\\d)";
    private static final String DATE = "(?:" + WHOLE_DASHED + "|" + WHOLE_PLAIN
        + "|(?:\\d{4}|[+-]\\d{6})(?:-\\d\\d|-W\\d\\d)?|\\d{4}W\\d\\d)";
    private static final String PART = "(?:[.,]\\d+)?";
    private static final String HOURS = "\\d\\d" + PART + "(?:Z|[+-]\\d\\d(?:\\d\\d|:\\d\\d)?)?";
    private static final String DASHED_TIME = "\\d\\d(?::\\d\\d(?::\\d\\d)?)?" + PART + "(?:Z|[+-]\\d\\d(?::\\d\\d)?)?";
    private static final String PLAIN_TIME = "\\d\\d(?:\\d\\d(?:\\d\\d)?)?" + PART + "(?:Z|[+-]\\d\\d(?:\\d\\d)?)?";
    private static final String COLON_TIME = "\\d\\d:\\d\\d(?::\\d\\d)?" + PART + "(?:Z|[+-]\\d\\d(?::\\d\\d)?)?";
    private static final String MOMENT = "(?:" + WHOLE_DASHED + "T" + DASHED_TIME + "|" + WHOLE_PLAIN + "T"
        + PLAIN_TIME + ")";
    private static final String DURATION = durations();
    private static final String INTERVAL = "(?:" + MOMENT + "/" + MOMENT + "|" + MOMENT + "/" + DURATION + "|"
        + DURATION + "/" + MOMENT + ")";

    static final Pattern[] FORMS = {
        Pattern.compile("\\d{4}-\\d\\d-\\d\\d[Tt ]\\d\\d:\\d\\d:\\d\\d(?:\\.\\d+)?(?:[Zz]|[+-]\\d\\d:\\d\\d)"),
        Pattern.compile(DATE),
        Pattern.compile("T?(?:" + HOURS + "|" + COLON_TIME + "|" + PLAIN_TIME + ")"),
        Pattern.compile(MOMENT),
        Pattern.compile(DURATION),
        Pattern.compile(INTERVAL),
        Pattern.compile("R\\d{0,9}/" + INTERVAL),
    };

    private static final String NAME = "(?:[A-Za-z]{3,8}|<[A-Za-z0-9+-]{3,8}>)";
    private static final String CLOCK = "\\d\\d?(?::\\d\\d)?";
    private static final String RULE_DATE = "(?:M\\d\\d?\\.\\d\\.\\d|J\\d{1,3}|\\d{1,3})(?:/" + CLOCK + ")?";
    static final Pattern RULE = Pattern.compile(NAME + "[+-]?" + CLOCK + "(?:" + NAME + "(?:[+-]?" + CLOCK + ")?,"
        + RULE_DATE + "," + RULE_DATE + ")?");

    private static final Pattern DATE_PARTS = Pattern.compile("([+-]\\d{6}|\\d{4})(?:"
        + "-(?<m1>\\d\\d)-(?<d1>\\d\\d)|(?<m2>\\d\\d)(?<d2>\\d\\d)|-?(?<o>\\d{3})|-(?<m>\\d\\d)"
        + "|-?W(?<w>\\d\\d)(?:-?(?<wd>\\d))?)?");
    private static final Pattern TIME_PARTS = Pattern.compile("(?<h>\\d\\d):?(?<m>\\d\\d)?:?(?<s>\\d\\d)?"
        + "(?:[.,](?<p>\\d+))?(?:(?<z>[Zz])|(?<sign>[+-])(?<oh>\\d\\d):?(?<om>\\d\\d)?)?");
    private static final Pattern DURATION_PART = Pattern.compile("(\\d+)(?:[.,](\\d+))?([YMWDHS])");

    private final Model model;
    /** What field() is to answer when the text was read. */
    final long[][] fields = new long[3][13];
    private int wrong;

    TextModel(Model model) {
        this.model = model;
        forget();
    }

    void forget() {
        for (long[] part : fields) {
            Arrays.fill(part, Check.NONE);
        }
    }

    private static String durations() {
        String letters = "YMDHMS";
        List<String> found = new ArrayList<>();
        found.add("\\d{1,9}W");
        for (int subset = 1; subset < 64; subset++) {
            StringBuilder one = new StringBuilder();
            for (int i = 0; i < 6; i++) {
                if (i == 3 && subset >> 3 != 0) {
                    one.append("T");
                }
                if ((subset >> i & 1) != 0) {
                    one.append("\\d{1,9}").append(subset >> (i + 1) == 0 ? PART : "").append(letters.charAt(i));
                }
            }
            found.add(one.toString());
        }
        return "P(?:" + String.join("|", found) + ")";
    }

    /** The place of the first byte with which no text of a pattern goes on; NONE. */
    static long grammarFault(Pattern pattern, String text) {
        if (pattern.matcher(text).matches()) {
            return Check.NONE;
        }
        for (int length = text.length(); length >= 0; length--) {
            Matcher m = pattern.matcher(text.substring(0, length));
            if (m.matches() || m.hitEnd()) {
                return length;
            }
        }
        return 0;
    }

    /** The FAULT of a text as a form; if there is none, the fields are its. */
    long fault(int form, String text) {
        long place = grammarFault(FORMS[form], text);
        if (place != Check.NONE) {
            return place;
        }
        long[][] old = {fields[0].clone(), fields[1].clone(), fields[2].clone()};
        forget();
        wrong = -1;
        if (form == 0) {
            moment(0, 0, text, 0, 10);
        } else if (form == 1) {
            date(fields[0], 1, text, 0, text.length());
        } else if (form == 2) {
            int start = text.startsWith("T") ? 1 : 0;
            time(fields[0], 2, text, start, text.length());
        } else if (form == 3) {
            moment(0, 3, text, 0, text.indexOf('T'));
        } else if (form == 4) {
            duration(0, text, 0, text.length());
        } else {
            interval(form, text);
        }
        if (wrong < 0) {
            return Check.NONE;
        }
        for (int part = 0; part < 3; part++) {
            fields[part] = old[part];
        }
        return wrong;
    }

    private void interval(int form, String text) {
        int start = 0;
        if (form == 6) {
            start = text.indexOf('/') + 1;
            String often = text.substring(1, start - 1);
            fields[2][0] = often.isEmpty() ? Check.NONE : Long.parseLong(often);
        }
        int slash = text.indexOf('/', start);
        side(0, text.substring(0, slash), start);
        side(1, text, slash + 1);
    }

    private void side(int part, String text, int start) {
        if (text.charAt(start) == 'P') {
            duration(part, text, start, text.length());
        } else {
            moment(part, 3, text, start, text.indexOf('T', start));
        }
    }

    private void blame(int place) {
        if (wrong < 0) {
            wrong = place;
        }
    }

    private void moment(int part, int form, String text, int start, int middle) {
        date(fields[part], form, text, start, middle);
        time(fields[part], form, text, middle + 1, text.length());
    }

    private void date(long[] field, int form, String text, int start, int end) {
        Matcher m = DATE_PARTS.matcher(text).region(start, end);
        if (!m.matches()) {
            throw new IllegalStateException(text);
        }
        int year = Integer.parseInt(m.group(1));
        if (m.group(1).equals("-000000")) {
            blame(start);
        }
        field[0] = form;
        try {
            field[2] = dayOf(field, m, year, start);
        } catch (DateTimeException e) {
            field[2] = 0;
        }
        if (field[2] < Model.FIRST_MINUTE / 1440 || field[2] > (Model.LAST_MINUTE - 1439) / 1440) {
            blame(start);
        }
    }

    private long dayOf(long[] field, Matcher m, int year, int start) {
        LocalDate first = LocalDate.of(year, 1, 1);
        if (m.group("o") != null) {
            field[1] = 2;
            int ordinal = number(m, "o", 1, first.lengthOfYear());
            return first.plusDays(ordinal - 1).toEpochDay();
        }
        if (m.group("w") != null) {
            LocalDate fourth = LocalDate.of(year, 1, 4);
            int week = number(m, "w", 1, (int) fourth.range(IsoFields.WEEK_OF_WEEK_BASED_YEAR).getMaximum());
            int weekday = m.group("wd") == null ? 1 : number(m, "wd", 1, 7);
            field[1] = m.group("wd") == null ? 5 : 1;
            LocalDate day = fourth.plusDays(weekday - fourth.getDayOfWeek().getValue() + 7L * (week - 1));
            return day.toEpochDay();
        }
        String month = m.group("m1") != null ? "m1" : m.group("m2") != null ? "m2" : "m";
        if (m.group(month) == null) {
            field[1] = 3;
            return first.toEpochDay();
        }
        LocalDate ofMonth = LocalDate.of(year, number(m, month, 1, 12), 1);
        if (month.equals("m")) {
            field[1] = 4;
            return ofMonth.toEpochDay();
        }
        field[1] = 0;
        return ofMonth.plusDays(number(m, month.equals("m1") ? "d1" : "d2", 1, ofMonth.lengthOfMonth()) - 1)
            .toEpochDay();
    }

    /** A number in a group, blamed if it can not be; then the least one stands for it. */
    private int number(Matcher m, String group, int least, int most) {
        if (m.group(group) == null) {
            return least;
        }
        int value = Integer.parseInt(m.group(group));
        if (value < least || value > most) {
            blame(m.start(group));
            return least;
        }
        return value;
    }

    private void time(long[] field, int form, String text, int start, int end) {
        Matcher m = TIME_PARTS.matcher(text).region(start, end);
        if (!m.matches()) {
            throw new IllegalStateException(text);
        }
        long day = field[2];
        int hours = number(m, "h", 0, 24);
        int minutes = m.group("m") == null ? 0 : Integer.parseInt(m.group("m"));
        int seconds = m.group("s") == null ? 0 : Integer.parseInt(m.group("s"));
        BigDecimal part = part(m.group("p"));
        if (hours == 24 && (minutes > 0 || seconds > 0 || part.signum() > 0
                || (day + 1) * 1440 > Model.LAST_MINUTE)) {
            blame(m.start("h"));
        }
        number(m, "m", 0, 59);
        long offset = offsetOf(m);
        boolean isLong = seconds == 60 && day != Check.NONE && offset != Check.ILLEGAL
            && model.lastSecond(day * 1440 + hours * 60 + minutes - (offset == Check.NONE ? 0 : offset)) == 60;
        number(m, "s", 0, isLong ? 60 : 59);
        number(m, "oh", 0, 23);
        number(m, "om", 0, 59);
        int unit = m.group("m") == null ? 3600 : m.group("s") == null ? 60 : 1;
        BigDecimal more = part.multiply(BigDecimal.valueOf(unit));
        long whole = more.setScale(0, RoundingMode.DOWN).longValue();
        long second = seconds == 60 ? 60 : (hours * 3600L + minutes * 60 + seconds + whole) % 60;
        long minute = (hours * 3600L + minutes * 60 + (seconds == 60 ? 59 : seconds) + whole) / 60;
        field[0] = form;
        field[3] = minute % 1440;
        field[4] = second;
        field[5] = more.subtract(BigDecimal.valueOf(whole)).movePointRight(9).longValue();
        field[6] = offset;
        field[7] = offset == Check.NONE ? Check.NONE : m.group("z") != null ? 1
            : offset == 0 && m.group("sign").equals("-") ? 2 : 0;
        if (day != Check.NONE) {
            field[2] = day + minute / 1440;
            long utc = day * 1440 + minute - offset;
            field[8] = offset == Check.NONE || !Model.holdsMinute(utc) ? Check.NONE
                : model.instantOf(utc, (int) second);
        }
    }

    /** NONE without one; ILLEGAL if it can not be. */
    private static long offsetOf(Matcher m) {
        if (m.group("z") != null) {
            return 0;
        }
        if (m.group("oh") == null) {
            return Check.NONE;
        }
        int hours = Integer.parseInt(m.group("oh"));
        int minutes = m.group("om") == null ? 0 : Integer.parseInt(m.group("om"));
        if (hours > 23 || minutes > 59) {
            return Check.ILLEGAL;
        }
        return (hours * 60 + minutes) * (m.group("sign").equals("-") ? -1 : 1);
    }

    private static BigDecimal part(String digits) {
        return digits == null ? BigDecimal.ZERO : new BigDecimal("0." + digits).setScale(9, RoundingMode.DOWN);
    }

    private void duration(int part, String text, int start, int end) {
        Matcher m = DURATION_PART.matcher(text).region(start, end);
        long months = 0;
        long days = 0;
        BigDecimal seconds = BigDecimal.ZERO;
        int clock = text.indexOf('T', start);
        while (m.find()) {
            BigDecimal value = new BigDecimal(m.group(1)).add(part(m.group(2)));
            boolean isTime = clock >= 0 && clock < end && m.start() > clock;
            char letter = isTime ? Character.toLowerCase(m.group(3).charAt(0)) : m.group(3).charAt(0);
            long whole = value.longValue();
            BigDecimal rest = value.subtract(BigDecimal.valueOf(whole));
            switch (letter) {
                case 'Y', 'M' -> {
                    months += letter == 'Y' ? 12 * whole : whole;
                    if (rest.signum() > 0) {
                        blame(m.end(1));
                    }
                }
                case 'W' -> days += 7 * whole;
                case 'D' -> {
                    days += whole;
                    seconds = seconds.add(rest.multiply(BigDecimal.valueOf(86400)));
                }
                case 'h' -> seconds = seconds.add(value.multiply(BigDecimal.valueOf(3600)));
                case 'm' -> seconds = seconds.add(value.multiply(BigDecimal.valueOf(60)));
                default -> seconds = seconds.add(value);
            }
        }
        long[] field = fields[part];
        field[0] = 4;
        field[9] = months;
        field[10] = days;
        field[11] = seconds.longValue();
        field[12] = seconds.subtract(BigDecimal.valueOf(seconds.longValue())).movePointRight(9).longValue();
    }

    /** The FAULT of a text as a rule. */
    static long ruleFault(String text) {
        long place = grammarFault(RULE, text);
        if (place != Check.NONE) {
            return place;
        }
        Matcher m = Pattern.compile(NAME + "(?<sign>[+-]?)(?<h>\\d+)(?::(?<m>\\d+))?(?:(?<name>" + NAME
            + ")(?:[+-]?(?<h2>\\d+)(?::(?<m2>\\d+))?)?,(?<dates>.*))?").matcher(text);
        if (!m.matches()) {
            throw new IllegalStateException(text);
        }
        int hours = Integer.parseInt(m.group("h"));
        int minutes = m.group("m") == null ? 0 : Integer.parseInt(m.group("m"));
        if (hours > 23) {
            return m.start("h");
        }
        if (minutes > 59) {
            return m.start("m");
        }
        if (m.group("name") == null) {
            return Check.NONE;
        }
        boolean isAhead = m.group("sign").equals("-");
        if (m.group("h2") == null && isAhead && hours * 60 + minutes + 60 > 1439) {
            return m.start("h");
        }
        if (m.group("h2") != null && Integer.parseInt(m.group("h2")) > 23) {
            return m.start("h2");
        }
        if (m.group("m2") != null && Integer.parseInt(m.group("m2")) > 59) {
            return m.start("m2");
        }
        return ruleDateFault(text, m.start("dates"));
    }

    private static long ruleDateFault(String text, int start) {
        Matcher m = Pattern.compile("(?:M(\\d+)\\.(\\d)\\.(\\d)|J(\\d+)|(\\d+))(?:/(\\d+)(?::(\\d+))?)?").matcher(text);
        int[][] bounds = {{1, 12}, {1, 5}, {0, 6}, {1, 365}, {0, 365}, {0, 24}, {0, 59}};
        int place = start;
        while (m.find(place)) {
            for (int group = 1; group <= 7; group++) {
                String digits = m.group(group);
                if (digits != null && (Integer.parseInt(digits) < bounds[group - 1][0]
                        || Integer.parseInt(digits) > bounds[group - 1][1])) {
                    return m.start(group);
                }
            }
            place = m.end();
        }
        return Check.NONE;
    }
}
