import java.util.Random;

/** Makes random texts of the forms 0 to 6 and, as 7, of rules; their numbers are often at an edge or beyond it. */
final class TextMaker {
    private final Random random;

    TextMaker(Random random) {
        this.random = random;
    }

    String make(int form) {
        switch (form) {
            case 0:
                return year() + "-" + monthAndDay("-") + pick("T", "t", " ") + digits(2, 23) + ":" + digits(2, 59) + ":"
                    + digits(2, 59) + (random.nextBoolean() ? "." + run(12) : "") + stampOffset();
            case 1:
                return date(random.nextBoolean(), random.nextInt(3) == 0);
            case 2:
                return pick("T", "") + time(random.nextInt(3), random.nextInt(3));
            case 3:
                return moment();
            case 4:
                return duration();
            case 5:
                return interval();
            case 6:
                return "R" + (random.nextBoolean() ? run(10) : "") + "/" + interval();
            default:
                return rule();
        }
    }

    private String pick(String... texts) {
        return texts[random.nextInt(texts.length)];
    }

    /** A number of so many digits: mostly up to a bound, at times any. */
    private String digits(int size, int most) {
        int all = (int) Math.pow(10, size);
        int kind = random.nextInt(12);
        int value = kind == 0 ? random.nextInt(all) : kind == 1 ? most + 1 : kind == 2 ? most
            : kind == 3 ? 0 : kind == 4 ? 1 : random.nextInt(most + 1);
        return String.format("%0" + size + "d", value);
    }

    private String run(int most) {
        StringBuilder digits = new StringBuilder();
        boolean zeros = random.nextInt(3) == 0;
        for (int i = random.nextInt(most) + 1; i > 0; i--) {
            digits.append(zeros ? 0 : random.nextInt(10));
        }
        return digits.toString();
    }

    private String year() {
        return pick("2016", "2023", "2024", "0000", "9999", "1969", "1970", "2020", digits(4, 9999));
    }

    private String longYear() {
        return pick("+", "-") + pick("000000", "000001", "999999", "002024", digits(6, 999999));
    }

    private String monthAndDay(String between) {
        return pick("12" + between + "31", "02" + between + "29", "01" + between + "01", "02" + between + "28",
            digits(2, 12) + between + digits(2, 31));
    }

    private String date(boolean dashed, boolean isShort) {
        boolean isLong = dashed && random.nextInt(4) == 0;
        String year = isLong ? longYear() : year();
        String dash = dashed ? "-" : "";
        if (isShort) {
            return pick(year, year + "-" + digits(2, 12), year + dash + "W" + digits(2, 53));
        }
        return year + dash + pick(monthAndDay(dash), digits(3, 366), "W" + digits(2, 53) + dash + digits(1, 7),
            pick("366", "365", "W52" + dash + "6", "W52" + dash + "5"));
    }

    private String stampOffset() {
        return pick("Z", "z", "+", "-", "+00:00", "-00:00").replaceAll("^([+-])$", "$1" + digits(2, 23) + ":"
            + digits(2, 59));
    }

    /** Marks: 0 colons, 1 none, 2 hours alone; offset marks likewise, of hours alone either. */
    private String time(int marks, int offsetMarks) {
        String colon = marks == 0 ? ":" : "";
        String time = pick("23", "24", "00", digits(2, 23));
        if (marks < 2) {
            time += colon + pick("59", "00", digits(2, 59));
            if (random.nextBoolean()) {
                time += colon + pick("60", "59", "00", digits(2, 59));
            }
        }
        if (random.nextInt(3) == 0) {
            time += pick(".", ",") + run(12);
        }
        int kind = random.nextInt(4);
        if (kind == 0) {
            return time;
        }
        if (kind == 1) {
            return time + "Z";
        }
        String between = marks == 2 ? offsetMarks == 0 ? ":" : "" : colon;
        return time + pick("+", "-") + pick("00", "01", digits(2, 23))
            + (random.nextBoolean() ? between + pick("00", "01", digits(2, 59)) : "");
    }

    private String moment() {
        boolean dashed = random.nextBoolean();
        int marks = dashed ? 0 : 1;
        return date(dashed, false) + "T" + time(random.nextInt(4) == 0 ? 2 : marks, marks);
    }

    private String duration() {
        if (random.nextInt(8) == 0) {
            return "P" + run(9) + "W";
        }
        StringBuilder made = new StringBuilder("P");
        String letters = "YMDHMS";
        int subset = 1 + random.nextInt(63);
        for (int i = 0; i < 6; i++) {
            if (i == 3 && subset >> 3 != 0) {
                made.append('T');
            }
            if ((subset >> i & 1) != 0) {
                made.append(run(9));
                boolean isLast = subset >> (i + 1) == 0;
                if (isLast && random.nextBoolean()) {
                    made.append(pick(".", ",")).append(run(12));
                }
                made.append(letters.charAt(i));
            }
        }
        return made.toString();
    }

    private String interval() {
        int kind = random.nextInt(3);
        return (kind == 2 ? duration() : moment()) + "/" + (kind == 1 ? duration() : moment());
    }

    private String name() {
        String[] names = {"ABC", "abcdefgh", "<+01>", "<-1a>", "<abcdefgh>", "AbCd"};
        return pick(names);
    }

    private String clock(int mostHours) {
        String hours = random.nextBoolean() ? digits(2, mostHours) : digits(1, 9);
        return hours + (random.nextInt(3) == 0 ? ":" + digits(2, 59) : "");
    }

    private String ruleDate() {
        String date = pick("M" + pick(digits(2, 12), digits(1, 9)) + "." + digits(1, 5) + "." + digits(1, 6),
            "J" + pick(digits(3, 365), digits(2, 99)), digits(3, 365), digits(1, 9));
        return random.nextBoolean() ? date : date + "/" + clock(24);
    }

    private String rule() {
        String rule = name() + pick("", "+", "-") + pick(clock(23), clock(23), "23", "22:59", "23:00");
        if (random.nextInt(4) == 0) {
            return rule;
        }
        return rule + name() + (random.nextBoolean() ? pick("", "+", "-") + clock(23) : "") + "," + ruleDate() + ","
            + ruleDate();
    }
}
