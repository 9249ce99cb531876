/** Bounds of TEXTS: every number, every place and every end of a text; the promises 9, 18 and 19. */
public final class TextBoundsTest {
    private static final String DIGITS = "0123456789";
    private static final String FIRST_DIGITS = "123456789";
    /** Is as long as a text can be, and has no fault; twelve shots. */
    private static final String LONGEST = "1@50;1@51;1@52;1@53;1@54;1@55;1@56;1@57;1@58;1@59;1@60;1@610";
    /** What stands ahead, and the characters that are allowed behind it. */
    private static final String[][] ALLOWED = {
        {"", FIRST_DIGITS}, {"1", DIGITS + ".@"}, {"2", DIGITS + ".@"}, {"3", DIGITS + ".@"}, {"9", DIGITS + ".@"},
        {"10", DIGITS + ".@"}, {"19", DIGITS + ".@"}, {"20", "0.@"}, {"21", ".@"}, {"99", ".@"},
        {"100", ".@"}, {"199", ".@"}, {"200", ".@"}, {"5.", DIGITS}, {"199.", DIGITS}, {"200.", "0"},
        {"5.0", "@"}, {"5.9", "@"}, {"200.0", "@"}, {"5@", FIRST_DIGITS}, {"200@", FIRST_DIGITS}, {"5.5@", FIRST_DIGITS},
        {"5@1", DIGITS}, {"5@4", DIGITS}, {"5@5", DIGITS}, {"5@9", DIGITS}, {"5@10", DIGITS}, {"5@49", DIGITS},
        {"5@50", DIGITS + ";x"}, {"5@89", DIGITS + ";x"}, {"5@90", "0;x"}, {"5@91", ";x"}, {"5@99", ";x"},
        {"5@100", ";x"}, {"5@899", ";x"}, {"5@900", ";x"}, {"5@50x", FIRST_DIGITS}, {"5@50x1", ""},
        {"5@50x2", ";"}, {"5@50x9", ";"}, {"5@50;", FIRST_DIGITS}, {"5@50x2;", FIRST_DIGITS},
        {"5@50;20", "0.@"}, {"5@50;6@90", "0;x"}, {"5@50x2;6@50x1", ""},
    };

    private final Due due = new Due();

    private TextBoundsTest() {
    }

    public static void main(String[] args) {
        TextBoundsTest test = new TextBoundsTest();
        test.everyMass();
        test.everyTenth();
        test.everySpeed();
        test.everyNumberOfTimes();
        test.zerosInFront();
        test.charactersAtTheirPlaces();
        test.textsThatEndTooEarly();
        test.faultAtEveryPlaceOfALongText();
        test.atMostSixtyCharacters();
        test.textIsEmptied();
        test.formerTextIsGone();
        test.textStays();
        test.oneOrMoreShots();
        test.allOrNoneByTheRoomThatIsLeft();
        test.due.end();
    }

    private void loads(String text, int answer) {
        CaughtPellets x = new CaughtPellets();
        Told.write(x, text);
        due.is(text, x.loadAll(), answer);
        due.is("what waits behind " + text, x.count(9), Math.max(0, answer));
        due.is("states behind " + text, x.count(19), answer < 0 ? 0 : 1);
        due.is("length of " + text, x.count(20), text.length());
    }

    /** How many digits of a number are allowed, if it may not be greater than the most. */
    private static int allowedDigits(String number, int most) {
        int digits = 0;
        while (digits < number.length() && Integer.parseInt(number.substring(0, digits + 1)) <= most) {
            digits++;
        }
        return digits;
    }

    private void everyMass() {
        due.of("a mass in grams (1 to 200)");
        loads("0@50", -100);
        for (int mass = 1; mass <= 2300; mass++) {
            if (mass <= 200) {
                CaughtPellets x = new CaughtPellets();
                Told.write(x, mass + "@50");
                due.is(mass + "@50", x.loadAll(), 1);
                due.is("its mass", x.waiting(0, false), 10 * mass);
            } else {
                loads(mass + "@50", -100 - allowedDigits(Integer.toString(mass), 200));
            }
        }
        loads("99999999999@50", -102);
        loads("4294967297@50", -102);
        loads("20000000000@50", -103);
    }

    private void everyTenth() {
        due.of("(tenths; behind 200 only 0)");
        for (int tenth = 0; tenth <= 9; tenth++) {
            for (int mass : new int[] {1, 9, 10, 99, 100, 199}) {
                CaughtPellets x = new CaughtPellets();
                Told.write(x, mass + "." + tenth + "@50");
                due.is(mass + "." + tenth, x.loadAll(), 1);
                due.is("its mass", x.waiting(0, false), 10 * mass + tenth);
            }
            loads("200." + tenth + "@50", tenth == 0 ? 1 : -104);
            loads("0." + tenth + "@50", -100);
            loads("5." + tenth + "0@50", -103);
        }
        loads("5.@50", -102);
        loads("200.@50", -104);
    }

    private void everySpeed() {
        due.of("and a speed (50 to 900)");
        loads("5@0", -102);
        for (int speed = 1; speed <= 9100; speed++) {
            if (speed < 50) {
                int behind = -102 - Integer.toString(speed).length();
                loads("5@" + speed, behind);
                loads("5@" + speed + ";", behind);
                loads("5@" + speed + "x2", behind);
            } else if (speed <= 900) {
                CaughtPellets x = new CaughtPellets();
                Told.write(x, "5@" + speed);
                due.is("5@" + speed, x.loadAll(), 1);
                due.is("its speed", x.waiting(0, true), speed);
            } else {
                loads("5@" + speed, -102 - allowedDigits(Integer.toString(speed), 900));
            }
        }
        loads("5@4294967346", -105);
    }

    private void everyNumberOfTimes() {
        due.of("and how many such shots (2 to 9)");
        for (int times = 0; times <= 120; times++) {
            boolean isAllowed = times >= 2 && times <= 9;
            loads("5@50x" + times, isAllowed ? times : times == 0 ? -105 : -106);
            loads("5@50x" + times + ";6@60", isAllowed ? times + 1 : times == 0 ? -105 : -106);
        }
        due.of("so the fault of \"5@50x1\" is 6");
        loads("5@50x1", -106);
    }

    private void zerosInFront() {
        due.of("Numbers have no zero in front");
        loads("01@50", -100);
        loads("00@50", -100);
        loads("0200@50", -100);
        loads("5@050", -102);
        loads("5@00", -102);
        loads("5@0900", -102);
        loads("5@50x02", -105);
        loads("5@50x0", -105);
        loads("5@50;06@60", -105);
        loads("10.0@100", 1);
        loads("100.0@500", 1);
    }

    private void charactersAtTheirPlaces() {
        due.of("the first character that is not allowed at its place");
        for (String[] of : ALLOWED) {
            for (int sign = 0; sign < 400; sign++) {
                characterBehind(of[0], (char) sign, of[1]);
            }
            for (char sign : (DIGITS + ".@x;").toCharArray()) {
                for (int high : new int[] {1, 2, 3, 16, 127, 128, 255}) {
                    characterBehind(of[0], (char) (sign + 256 * high), of[1]);
                }
            }
        }
    }

    private void characterBehind(String ahead, char sign, String allowed) {
        CaughtPellets x = new CaughtPellets();
        Told.write(x, ahead);
        x.type(sign);
        int answer = x.loadAll();
        String name = ahead + " and the character " + (int) sign;
        if (allowed.indexOf(sign) < 0) {
            due.is(name, answer, -100 - ahead.length());
        } else {
            boolean isAllowed = answer >= 0 || answer == -101 - ahead.length();
            due.is(name + " answered " + answer + ", is it allowed", isAllowed ? 1 : 0, 1);
        }
    }

    private void textsThatEndTooEarly() {
        due.of("or the length of the text if it ends too early (the empty text does)");
        loads("", -100);
        String[] early = {
            "1", "20", "200", "5.", "200.", "5.5", "200.0", "5@", "5@4", "5@5", "5@9", "5@49", "5@50x", "5@50x1",
            "5@50;", "5@50x2;", "5@50;6", "5@50;6.", "5@50;6@", "5@50;6@6", "5@50;6@60x", "5@50;6@60x1", "5@50;6@60;",
        };
        for (String text : early) {
            loads(text, -100 - text.length());
        }
        String[] whole = {"5@50", "5@90", "5@900", "5.5@50", "5@50x2", "5@50;6@60", "5@50;6@60x2"};
        int[] shots = {1, 1, 1, 1, 2, 2, 3};
        for (int i = 0; i < whole.length; i++) {
            loads(whole[i], shots[i]);
        }
    }

    private void faultAtEveryPlaceOfALongText() {
        due.of("The fault of the text is the index, from 0");
        for (int place = 0; place < LONGEST.length(); place++) {
            loads(LONGEST.substring(0, place) + "?" + LONGEST.substring(place + 1), -100 - place);
        }
        loads(LONGEST, 12);
        loads(LONGEST.substring(0, 59), 12);
        loads(LONGEST.substring(0, 59) + ";", -160);
        loads(LONGEST.substring(0, 59) + "x", -160);
        loads(LONGEST.substring(0, 58), -158);
        loads(LONGEST.substring(0, 58) + "0", 12);
        loads(LONGEST.substring(0, 58) + "0?", -159);
        loads(LONGEST.substring(0, 55), -155);
    }

    private void atMostSixtyCharacters() {
        due.of("the length of the text then; FULL if it has 60 characters.");
        CaughtPellets x = new CaughtPellets();
        for (int i = 0; i < 60; i++) {
            due.is("type", x.type(LONGEST.charAt(i)), i + 1);
            due.is("count(20)", x.count(20), i + 1);
        }
        for (char sign : new char[] {';', '0', 0, 255, 256, 65535}) {
            due.is("the 61st", x.type(sign), -3);
            due.is("count(20)", x.count(20), 60);
        }
        due.is("the text is as before", x.loadAll(), 12);
        due.is("its last speed", x.waiting(11, true), 610);
        Unchanged.by(due, "type", Scenes::fullText, y -> y.type('1'), -3);
        due.of("any character");
        for (char sign : new char[] {0, 1, 127, 128, 255, 256, 32767, 32768, 65535}) {
            CaughtPellets y = new CaughtPellets();
            due.is("type " + (int) sign, y.type(sign), 1);
            due.is("type " + (int) sign, y.type(sign), 2);
            due.is("its fault", y.loadAll(), -100);
        }
    }

    private void textIsEmptied() {
        due.of("Returns the length that it had.");
        CaughtPellets x = new CaughtPellets();
        due.is("of a new object", x.clearText(), 0);
        x.type('5');
        due.is("of one character", x.clearText(), 1);
        due.is("of none", x.clearText(), 0);
        due.is("count(20)", x.count(20), 0);
        due.is("its fault", x.loadAll(), -100);
        Told.write(x, LONGEST);
        due.is("of 60 characters", x.clearText(), 60);
        due.is("there is room again", x.type('5'), 1);
        due.is("nothing of the former one is left", x.loadAll(), -101);
        due.is("no act", x.count(19), 0);
    }

    private void formerTextIsGone() {
        due.of("Empties the text.");
        String[][] texts = {
            {"55555", "5"}, {"5@500", "5@"}, {"5@500", "5@5"}, {"5@500", "5@50"}, {"5.5@50", "5."},
            {"5@50;55", "5@50;"}, {"5@50x5", "5@50x"}, {"5@50x5", "5@50"}, {"5@50;6@60", "5@50"},
        };
        int[] answers = {-101, -102, -103, 1, -102, -105, -105, 1, 1};
        for (int i = 0; i < texts.length; i++) {
            CaughtPellets x = new CaughtPellets();
            Told.write(x, texts[i][0]);
            Told.write(x, texts[i][1]);
            due.is(texts[i][1] + " behind " + texts[i][0], x.loadAll(), answers[i]);
        }
    }

    private void textStays() {
        due.of("Puts the shots of the text, which stays, behind the row");
        CaughtPellets x = new CaughtPellets();
        Told.write(x, "5@50x9");
        due.is("the first time", x.loadAll(), 9);
        due.is("the second time", x.loadAll(), 9);
        due.is("the third time", x.loadAll(), -3);
        due.is("count(20)", x.count(20), 6);
        x.unload(2000);
        due.is("the fourth time", x.loadAll(), 9);
        x.type('9');
        due.is("with a fault", x.loadAll(), -106);
        due.is("count(20)", x.count(20), 7);
        due.is("count(9)", x.count(9), 9);
    }

    private void oneOrMoreShots() {
        due.of("A text of shots is one or more shots with \";\" between two");
        loads(";", -100);
        loads(";5@50", -100);
        loads("5@50", 1);
        loads("5@50;5@50", 2);
        loads("5@50;;5@50", -105);
        loads("5@50;5@50;", -110);
        loads("5@505@50", -105);
        loads("1@50;1@50;1@50;1@50;1@50;1@50;1@50;1@50;1@50;1@50;1@50;1@50", 12);
        String most = "1@50x9;1@50x9;1@50x9;1@50x9;1@50x9;1@50x9;1@50x9;1@50x9;1@50";
        due.is("its length", most.length(), 60);
        loads(most, -3);
    }

    private void allOrNoneByTheRoomThatIsLeft() {
        due.of("-100 minus the fault of the text if it has one (which is an error); FULL if more than 20 would wait.");
        String[] texts = {"8@400", "8@400x2", "8@400x9", "8@400x9;9@410x9", "8@400x9;9@410x9;7@420", "8@400x9;9@410x9;7@420x2"};
        int[] shots = {1, 2, 9, 18, 19, 20};
        for (int i = 0; i < texts.length; i++) {
            for (int waiting = 0; waiting <= 20; waiting++) {
                CaughtPellets x = new CaughtPellets();
                for (int k = 0; k < waiting; k++) {
                    x.load(10, 50);
                }
                boolean hasRoom = waiting + shots[i] <= 20;
                Told.write(x, texts[i]);
                due.is(texts[i] + " behind " + waiting, x.loadAll(), hasRoom ? shots[i] : -3);
                due.is("all of them or none", x.count(9), hasRoom ? waiting + shots[i] : waiting);
                due.is("behind those that waited", x.waiting(waiting, true), hasRoom ? 400 : -5);
            }
        }
        loads("8@400x9;8@400x9;8@400x2", 20);
        loads("8@400x9;8@400x9;8@400x3", -3);
    }
}
