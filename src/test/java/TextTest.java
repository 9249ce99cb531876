/** Promises 9, 18 and 19: loadAll, type, clearText. */
public final class TextTest {
    private static final String[] FAULTLESS = {
        "1@50", "200@900", "200.0@900", "199.9@50x9", "5.0@50", "5@50;6@60", "10@100x2;20@200x3;1@900x4",
        "5.5@899", "19@90",
    };

    private TextTest() {
    }

    public static void main(String[] args) {
        Due due = new Due();
        charactersAreTyped(due);
        textIsNoState(due);
        shotsOfTheTextAreLoaded(due);
        allOfThemOrNone(due);
        textsWithoutFault(due);
        faultsOfMasses(due);
        faultsOfSpeeds(due);
        faultsOfTimes(due);
        faultsBehindAShot(due);
        otherCharacters(due);
        formerTextIsGone(due);
        due.end();
    }

    private static void charactersAreTyped(Due due) {
        due.of("`int type(char character)`: Types a character behind the text.");
        CaughtPellets x = new CaughtPellets();
        due.is("clearText() of nothing", x.clearText(), 0);
        for (int i = 0; i < 60; i++) {
            due.is("type", x.type((char) (i * 1000)), i + 1);
        }
        due.of("Returns the length of the text then; FULL if it has 60 characters.");
        due.is("one more", x.type('1'), -3);
        due.is("count(20)", x.count(20), 60);
        due.of("`int clearText()`: Empties the text.");
        due.is("clearText()", x.clearText(), 60);
        due.is("clearText() again", x.clearText(), 0);
        due.is("count(20)", x.count(20), 0);
        due.of("- `character`: any character");
        due.is("type", x.type('\uffff'), 1);
        due.is("type", x.type('\u0000'), 2);
        due.is("no act", x.count(19), 0);
    }

    private static void textIsNoState(Due due) {
        due.of("A state is everything but the text, the history and the snapshot.");
        CaughtPellets x = new CaughtPellets();
        Told.write(x, "5@50");
        x.keep();
        x.setLimit(31);
        Told.write(x, "6@60x2");
        due.is("undo()", x.undo(), 0);
        due.is("the text stays", x.count(20), 6);
        due.is("loadAll()", x.loadAll(), 2);
        due.is("restore()", x.restore(), 0);
        due.is("the text stays", x.count(20), 6);
        due.is("loadAll()", x.loadAll(), 2);
        x.clearText();
        due.is("undo()", x.undo(), 2);
        due.is("undo()", x.undo(), 1);
        due.is("the text stays empty", x.count(20), 0);
    }

    private static void shotsOfTheTextAreLoaded(Due due) {
        due.of("`int loadAll()`: Puts the shots of the text, which stays, behind the row; all of them, or "
            + "none. This is one act.");
        CaughtPellets x = new CaughtPellets();
        x.load(2000, 900);
        Told.write(x, "5@50;7.5@420x3;200.0@900;199.9@51x2;1.0@52");
        due.is("loadAll()", x.loadAll(), 8);
        int[] mass = {2000, 50, 75, 75, 75, 2000, 1999, 1999, 10};
        int[] speed = {900, 50, 420, 420, 420, 900, 51, 51, 52};
        for (int place = 0; place < mass.length; place++) {
            due.is("mass at " + place, x.waiting(place, false), mass[place]);
            due.is("speed at " + place, x.waiting(place, true), speed[place]);
        }
        due.is("no more", x.waiting(9, false), -5);
        due.is("count(9)", x.count(9), 9);
        due.is("it is one act", x.count(19), 2);
        due.is("the text stays", x.count(20), 42);
        due.is("loadAll() again", x.loadAll(), 8);
        due.is("count(9)", x.count(9), 17);
        due.is("undo()", x.undo(), 2);
        due.is("count(9)", x.count(9), 9);
    }

    private static void allOfThemOrNone(Due due) {
        due.of("Returns how many shots the text has; -100 minus the fault of the text if it has one (which is "
            + "an error); FULL if more than 20 would wait.");
        CaughtPellets x = new CaughtPellets();
        Told.write(x, "5@50x9;6@60x9;7@70x2");
        due.is("just 20", x.loadAll(), 20);
        due.is("the last one", x.waiting(19, true), 70);
        due.is("one more text", x.loadAll(), -3);
        due.is("count(9)", x.count(9), 20);
        due.is("no act", x.count(19), 1);
        x.unload(60);
        due.is("count(9)", x.count(9), 2);
        due.is("too many behind those that wait", x.loadAll(), -3);
        Told.write(x, "5@50x9;6@60x9");
        due.is("just as many as there is room for", x.loadAll(), 18);
        x.unload(2000);
        Told.write(x, "5@50x9;6@60x9;7@70x3");
        due.is("21", x.loadAll(), -3);
        due.is("count(9)", x.count(9), 0);
        Told.write(x, "1@50x9;1@50x9;1@50x9;1@50x9;1@50x9;1@50x9;1@50x9;1@50x9");
        due.is("72", x.loadAll(), -3);
        Told.write(x, "5@50x9;6@60x9;7@70x3;");
        due.is("the fault is asked first", x.loadAll(), -121);
        Told.write(x, "1@50;1@51;1@52;1@53;1@54;1@55;1@56;1@57;1@58;1@59;1@60;1@61x");
        due.is("60 characters, too early an end", x.loadAll(), -160);
        x.clearText();
        Told.write(x, "1@50;1@51;1@52;1@53;1@54;1@55;1@56;1@57;1@58;1@59;1@60;1@610");
        due.is("60 characters", x.loadAll(), 12);
        due.is("the last one", x.waiting(11, true), 610);
    }

    private static void textsWithoutFault(Due due) {
        due.of("A text of shots is one or more shots with \";\" between two: a mass in grams (1 to 200), perhaps "
            + "\".\" and a digit (tenths; behind 200 only 0), \"@\" and a speed (50 to 900), and perhaps \"x\" and "
            + "how many such shots (2 to 9).");
        int[] shots = {1, 1, 1, 9, 1, 2, 9, 1, 1};
        for (int i = 0; i < shots.length; i++) {
            CaughtPellets x = new CaughtPellets();
            Told.write(x, FAULTLESS[i]);
            due.is(FAULTLESS[i], x.loadAll(), shots[i]);
            due.is("count(9)", x.count(9), shots[i]);
        }
        CaughtPellets x = new CaughtPellets();
        Told.write(x, "12@90");
        x.type('0');
        due.is("12@900", x.loadAll(), 1);
        due.is("its mass", x.waiting(0, false), 120);
        due.is("its speed", x.waiting(0, true), 900);
    }

    private static void fault(Due due, String text, int fault) {
        CaughtPellets x = new CaughtPellets();
        Told.write(x, text);
        due.is(text, x.loadAll(), -100 - fault);
        due.is("nothing waits behind " + text, x.count(9), 0);
        due.is("no act is " + text, x.count(19), 0);
    }

    private static void faultsOfMasses(Due due) {
        due.of("Numbers have no zero in front; a digit by which a number would be greater than told is not allowed.");
        fault(due, "", 0);
        fault(due, "0@50", 0);
        fault(due, "0", 0);
        fault(due, "00", 0);
        fault(due, "05@50", 0);
        fault(due, "0.5@50", 0);
        fault(due, "@50", 0);
        fault(due, ".5@50", 0);
        fault(due, ";", 0);
        fault(due, "x", 0);
        fault(due, "-5@50", 0);
        fault(due, " 5@50", 0);
        fault(due, "5", 1);
        fault(due, "5x", 1);
        fault(due, "5;", 1);
        fault(due, "5 @50", 1);
        fault(due, "20", 2);
        fault(due, "200", 3);
        fault(due, "201@50", 2);
        fault(due, "210@50", 2);
        fault(due, "300@50", 2);
        fault(due, "2000@50", 3);
        fault(due, "1999@50", 3);
        fault(due, "5.", 2);
        fault(due, "5.@50", 2);
        fault(due, "5.x@50", 2);
        fault(due, "5.5", 3);
        fault(due, "5.55@50", 3);
        fault(due, "5.5.5@50", 3);
        fault(due, "5.5x2", 3);
        fault(due, "200.", 4);
        fault(due, "200.1@50", 4);
        fault(due, "200.9@50", 4);
        fault(due, "200.0", 5);
        fault(due, "200.00@50", 5);
    }

    private static void faultsOfSpeeds(Due due) {
        due.of("Where a number is less than told, the character behind it is not allowed (if there is none, "
            + "the text ends too early;");
        fault(due, "5@", 2);
        fault(due, "5@0", 2);
        fault(due, "5@050", 2);
        fault(due, "5@;", 2);
        fault(due, "5@x2", 2);
        fault(due, "5@@50", 2);
        fault(due, "5@5", 3);
        fault(due, "5@5;6@60", 3);
        fault(due, "5@5x2", 3);
        fault(due, "5@49", 4);
        fault(due, "5@49x2", 4);
        fault(due, "5@49;6@60", 4);
        fault(due, "5@901", 4);
        fault(due, "5@910", 4);
        fault(due, "5@999", 4);
        fault(due, "5@9000", 5);
        fault(due, "5@1000", 5);
        fault(due, "5@50.5", 4);
        fault(due, "5@50@50", 4);
    }

    private static void faultsOfTimes(Due due) {
        due.of("so the fault of \"5@50x1\" is 6");
        fault(due, "5@50x", 5);
        fault(due, "5@50x0", 5);
        fault(due, "5@50x02", 5);
        fault(due, "5@50x;", 5);
        fault(due, "5@50xx2", 5);
        fault(due, "5@50x1", 6);
        fault(due, "5@50x1;6@60", 6);
        fault(due, "5@50x10", 6);
        fault(due, "5@50x12", 6);
        fault(due, "5@50x22", 6);
        fault(due, "5@50x90", 6);
        fault(due, "5@50x2x2", 6);
        fault(due, "5@50x2.", 6);
    }

    private static void faultsBehindAShot(Due due) {
        due.of("The fault of the text is the index, from 0, of the first character that is not allowed at its "
            + "place, or the length of the text if it ends too early");
        fault(due, "5@50;", 5);
        fault(due, "5@50x2;", 7);
        fault(due, "5@50;;6@60", 5);
        fault(due, "5@50;0@60", 5);
        fault(due, "5@50;6", 6);
        fault(due, "5@50;6@60x", 10);
        fault(due, "5@50 ;6@60", 4);
        fault(due, "5@50; 6@60", 5);
        fault(due, "5@50,6@60", 4);
        fault(due, "5@50;6@60;", 10);
    }

    /** What stood behind a shorter text is not read. */
    private static void formerTextIsGone(Due due) {
        due.of("Empties the text.");
        String former = "5.5@50x2;6@60";
        int[] faults = {0, 1, 2, 3, 4, 5, -1, 7, -1, 9, 10, 11, 12};
        for (int length = 0; length < faults.length; length++) {
            CaughtPellets x = new CaughtPellets();
            Told.write(x, former);
            Told.write(x, former.substring(0, length));
            int answer = length == 6 ? 1 : length == 8 ? 2 : -100 - faults[length];
            due.is("the first " + length + " of " + former, x.loadAll(), answer);
        }
    }

    private static void otherCharacters(Due due) {
        due.of("the first character that is not allowed at its place");
        fault(due, "5@50X2", 4);
        fault(due, "\u0665@50", 0);
        fault(due, "5@5\u0660", 3);
        fault(due, "5\u014050", 1);
        fault(due, "5/@50", 1);
        fault(due, "5:@50", 1);
        fault(due, "/5@50", 0);
        fault(due, ":5@50", 0);
        fault(due, "\u00005@50", 0);
        fault(due, "5@50\u0000", 4);
        fault(due, "5@50\uffff", 4);
    }
}
