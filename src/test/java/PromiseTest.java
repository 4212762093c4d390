import java.util.NoSuchElementException;

/** For each promise of the document: ordinary inputs, the edges that it names, and wrong inputs. */
public final class PromiseTest {
    private static final Class<IndexOutOfBoundsException> BOUNDS = IndexOutOfBoundsException.class;
    private static final Class<IllegalArgumentException> ARGUMENT = IllegalArgumentException.class;
    private static final Class<IllegalStateException> STATE = IllegalStateException.class;
    private static final Class<UnsupportedOperationException> UNSUPPORTED = UnsupportedOperationException.class;
    private static final Class<NoSuchElementException> NO_ELEMENT = NoSuchElementException.class;
    private static final Class<ArithmeticException> ARITHMETIC = ArithmeticException.class;
    private static final int[] NO_NUMBERS = {-1, Integer.MIN_VALUE, 12, Integer.MAX_VALUE};

    private PromiseTest() {
    }

    public static void main(String[] args) {
        modifications();
        lines();
        fights();
        sides();
        statistics();
        texts();
        undoAndSnapshots();
        Check.finish("PromiseTest");
    }

    private static void modifications() {
        newObject();
        addLine();
        setOrder();
        rally();
        turn();
        charge();
        fightInTurn();
        routedInTurn();
    }

    private static void dueLine(String what, LineBattle b, int line, int column, int strength, int morale) {
        Check.due(what + " column", column, () -> b.columnOf(line));
        Check.due(what + " strength", strength, () -> b.strengthOf(line));
        Check.due(what + " morale", morale, () -> b.moraleOf(line));
    }

    // Promises 1 to 5

    private static void newObject() {
        LineBattle b = new LineBattle();
        Check.due("1 jars of 0", 3, () -> b.jarsOf(0));
        Check.due("1 jars of 1", 3, () -> b.jarsOf(1));
        Check.due("1 turns", 0, b::turnCount);
        Check.due("1 fights", 0, b::fightCount);
        Check.due("1 lines", 0, b::lineCount);
        Check.thrown("1 written text", BOUNDS, () -> b.writtenAt(0));
        for (int lane = 0; lane < 3; lane++) {
            int l = lane;
            Check.due("1 lane", "..........", () -> Scene.lane(b, l));
        }
        Check.thrown("1 undo", STATE, b::undo);
        Check.thrown("1 restore", STATE, b::restore);
    }

    private static void addLine() {
        LineBattle b = new LineBattle();
        int[][] wrong = {{-1, 0, 'p', 1}, {2, 0, 'p', 1}, {0, -1, 'p', 1}, {0, 3, 'p', 1}, {0, 0, 'P', 1},
            {0, 0, 'h', 1}, {0, 0, 0, 1}, {0, 0, 'p', 0}, {0, 0, 'p', 100}, {0, 0, 'p', -1},
            {Integer.MAX_VALUE, Integer.MIN_VALUE, 65535, Integer.MIN_VALUE}};
        for (int[] w : wrong) {
            Check.thrown("2 wrong", ARGUMENT, () -> b.addLine(w[0], w[1], (char) w[2], w[3]));
        }
        Check.due("2 none added", 0, b::lineCount);
        Check.thrown("2 none to undo", STATE, b::undo);
        Check.due("2 first", 0, () -> b.addLine(0, 0, 'p', 1));
        Check.due("2 second", 1, () -> b.addLine(1, 0, 'n', 99));
        Check.due("2 third", 2, () -> b.addLine(0, 2, 'c', 50));
        Check.due("2 fourth", 3, () -> b.addLine(1, 2, 's', 50));
        Check.due("2 lane 0", "p........N", () -> Scene.lane(b, 0));
        Check.due("2 lane 2", "c........S", () -> Scene.lane(b, 2));
        Check.due("2 order", 'h', () -> b.orderOf(1));
        Check.due("2 stands", true, () -> b.isStanding(1));
        dueLine("2 line 0", b, 0, 0, 1, 10);
        dueLine("2 line 1", b, 1, 9, 99, 10);
        Check.thrown("2 taken", UNSUPPORTED, () -> b.addLine(0, 0, 's', 9));
        Check.thrown("2 taken at 9", UNSUPPORTED, () -> b.addLine(1, 2, 's', 9));
        Check.thrown("2 taken and wrong", ARGUMENT, () -> b.addLine(1, 2, 's', 0));
        takenByEnemy();
        twelveLines();
    }

    private static void takenByEnemy() {
        LineBattle b = new LineBattle();
        b.addLine(0, 1, 'p', 9);
        b.setOrder(0, 'c');
        Scene.turns(b, 5);
        Check.due("2 in the enemy's first column", 9, () -> b.columnOf(0));
        Check.thrown("2 taken by the other side", UNSUPPORTED, () -> b.addLine(1, 1, 'p', 9));
        Check.due("2 own first column is free", 1, () -> b.addLine(0, 1, 'p', 9));
    }

    /** Four in each lane: each moves on before the next comes. */
    private static void twelveLines() {
        LineBattle b = new LineBattle();
        for (int i = 0; i < 12; i++) {
            int number = i;
            Check.due("2 line of twelve", i, () -> b.addLine(0, number % 3, 's', number + 1));
            b.setOrder(i, 'a');
            if (i % 3 == 2) {
                b.turn();
            }
        }
        Check.due("2 lane of four", ".ssss.....", () -> Scene.lane(b, 0));
        Check.thrown("2 a thirteenth", STATE, () -> b.addLine(0, 0, 's', 1));
        Check.thrown("2 a thirteenth, wrong", ARGUMENT, () -> b.addLine(0, 0, 'x', 1));
        b.undo();
        Check.thrown("2 a thirteenth, taken", STATE, () -> b.addLine(0, 2, 's', 1));
        Check.due("2 twelve", 12, b::lineCount);
        Check.due("2 the strongest", 11, () -> b.lineByStrength(0));
    }

    private static void setOrder() {
        LineBattle b = Scene.rout();
        b.addLine(0, 2, 'p', 9);
        for (int n : NO_NUMBERS) {
            Check.thrown("3 no line", BOUNDS, () -> b.setOrder(n, 'h'));
        }
        Check.thrown("3 no line yet", BOUNDS, () -> b.setOrder(3, 'x'));
        Check.thrown("3 no order", ARGUMENT, () -> b.setOrder(2, 'p'));
        Check.thrown("3 no order for a routed line", ARGUMENT, () -> b.setOrder(0, 'A'));
        Check.thrown("3 routed", STATE, () -> b.setOrder(0, 'h'));
        Check.due("3 hold before", 'h', () -> b.setOrder(2, 'a'));
        Check.due("3 advance before", 'a', () -> b.setOrder(2, 'c'));
        Check.due("3 charge before", 'c', () -> b.setOrder(2, 'c'));
        Check.due("3 order", 'c', () -> b.orderOf(2));
        Check.due("3 the same order counts, too", 7, b::undo);
        Check.due("3 the order before it is the same", 'c', () -> b.orderOf(2));
        Check.due("3 undone again", 6, b::undo);
        Check.due("3 the order before", 'a', () -> b.orderOf(2));
        LineBattle fallen = Scene.fall();
        Check.thrown("3 fallen", STATE, () -> fallen.setOrder(1, 'h'));
        Check.thrown("3 fallen, no order", ARGUMENT, () -> fallen.setOrder(1, 'x'));
    }

    private static void rally() {
        LineBattle b = Scene.rout();
        for (int n : NO_NUMBERS) {
            Check.thrown("4 no line", BOUNDS, () -> b.rally(n));
        }
        Check.thrown("4 no line yet", BOUNDS, () -> b.rally(2));
        Check.due("4 morale", 10, () -> b.rally(0));
        Check.due("4 stands", true, () -> b.isStanding(0));
        Check.due("4 order", 'h', () -> b.orderOf(0));
        Check.due("4 jar", 2, () -> b.jarsOf(0));
        Check.due("4 jar of the other side", 3, () -> b.jarsOf(1));
        Check.thrown("4 stands already", STATE, () -> b.rally(0));
        Check.due("4 morale 3 and 6", 9, () -> b.rally(1));
        Check.due("4 jar of side 1", 2, () -> b.jarsOf(1));
        LineBattle fallen = Scene.fall();
        Check.thrown("4 fallen", STATE, () -> fallen.rally(1));
        lowRally();
    }

    /** Two lines of morale 1: the first needs two jars, and then one is left for the second. */
    private static void lowRally() {
        LineBattle b = new LineBattle();
        b.addLine(0, 0, 'c', 99);
        b.addLine(1, 0, 's', 60);
        b.addLine(0, 2, 'c', 99);
        b.addLine(1, 2, 's', 60);
        for (int i = 0; i < 4; i++) {
            b.setOrder(i, 'a');
        }
        Scene.turns(b, 5);
        Check.due("4 routed", 1, () -> b.moraleOf(1));
        Check.due("4 one jar", 7, () -> b.rally(1));
        Check.due("4 still routed", true, () -> b.isRouted(1));
        Check.due("4 two jars", 13, () -> b.rally(1));
        Check.due("4 stands after two", true, () -> b.isStanding(1));
        Check.due("4 the last jar", 7, () -> b.rally(3));
        Check.due("4 no jar", 0, () -> b.jarsOf(1));
        Check.thrown("4 without a jar", UNSUPPORTED, () -> b.rally(3));
        Check.thrown("4 stands, without a jar", STATE, () -> b.rally(1));
        Check.due("4 still morale 7", 7, () -> b.moraleOf(3));
        b.turn();
        Check.due("4 morale 8 by itself", true, () -> b.isStanding(3));
    }

    private static void turn() {
        LineBattle b = new LineBattle();
        Check.due("5 empty", 0, b::turn);
        Check.due("5 counted", 1, b::turnCount);
        b.addLine(0, 0, 'p', 10);
        Scene.turns(b, 10);
        dueLine("5 hold up to 20", b, 0, 0, 10, 20);
        b.turn();
        dueLine("5 hold at 20", b, 0, 0, 10, 20);
        b.setOrder(0, 'a');
        b.turn();
        dueLine("5 advance", b, 0, 1, 10, 20);
        Scene.turns(b, 8);
        Check.due("5 at the end", 9, () -> b.columnOf(0));
        Check.due("5 beyond the end", 0, b::turn);
        Check.due("5 still at the end", 9, () -> b.columnOf(0));
        borders();
        LineBattle queue = new LineBattle();
        queue.addLine(1, 2, 'p', 10);
        queue.setOrder(0, 'a');
        queue.turn();
        queue.addLine(1, 2, 'n', 10);
        queue.setOrder(1, 'c');
        queue.setOrder(0, 'h');
        queue.turn();
        Check.due("5 own line in the way", "........PN", () -> Scene.lane(queue, 2));
        queue.setOrder(0, 'a');
        queue.turn();
        Check.due("5 in the order of their numbers", ".......PN.", () -> Scene.lane(queue, 2));
    }

    /** The last cell of a lane has no next one: neither the first of the lane behind it, nor one of an enemy. */
    private static void borders() {
        LineBattle b = new LineBattle();
        b.addLine(0, 0, 'p', 40);
        b.addLine(1, 1, 'p', 40);
        b.setOrder(0, 'c');
        b.setOrder(1, 'c');
        Scene.turns(b, 5);
        Check.due("5 side 0 at its end", ".........p", () -> Scene.lane(b, 0));
        Check.due("5 side 1 at its end", "P.........", () -> Scene.lane(b, 1));
        Check.due("5 no fight over the border", 0, b::turn);
        noEnemy("over the border", b, 0);
        noEnemy("over the border of side 1", b, 1);
    }

    private static void charge() {
        LineBattle b = new LineBattle();
        b.addLine(0, 0, 'p', 40);
        b.addLine(1, 0, 's', 99);
        b.setOrder(0, 'c');
        Scene.turns(b, 3);
        dueLine("5 charge by two", b, 0, 6, 40, 10);
        Check.due("5 charge and fight", 1, b::turn);
        // 40 / 4 + 6 = 16 and 5; the counter is 83 / 6 = 13 and 4; then salt holds.
        dueLine("5 charging pepper", b, 0, 8, 27, 6);
        dueLine("5 its enemy", b, 1, 9, 83, 9);
        b.turn();
        // Not moved: 27 / 4 = 6 and 2; the counter is 77 / 6 = 12 and 4.
        dueLine("5 unmoved pepper", b, 0, 8, 15, 2);
        dueLine("5 its enemy again", b, 1, 9, 77, 8);
        LineBattle one = new LineBattle();
        one.addLine(0, 0, 'p', 40);
        one.addLine(1, 0, 's', 99);
        one.setOrder(0, 'a');
        Scene.turns(one, 7);
        one.setOrder(0, 'c');
        Check.due("5 charge by one", 1, one::turn);
        dueLine("5 pepper charging by one", one, 0, 8, 27, 6);
        LineBattle advance = new LineBattle();
        advance.addLine(0, 0, 'p', 40);
        advance.addLine(1, 0, 's', 99);
        advance.setOrder(0, 'a');
        Scene.turns(advance, 7);
        Check.due("5 an advance does not fight when it moved", 0, advance::turn);
        Check.due("5 an advance fights", 1, advance::turn);
        // Without charging: 10 and 3 of 18, then held; the counter is 89 / 6 = 14 and 4.
        dueLine("5 advancing pepper", advance, 0, 8, 26, 6);
        dueLine("5 its enemy in the advance", advance, 1, 9, 89, 16);
    }

    private static void fightInTurn() {
        LineBattle b = Scene.meeting();
        Scene.turns(b, 4);
        Check.due("5 two fights", 2, b::turn);
        dueLine("5 nutmeg", b, 0, 4, 41, 4);
        dueLine("5 clove", b, 1, 5, 36, 3);
        LineBattle fallen = Scene.fall();
        // 99 / 3 = 33 against 5: strength 0, morale 13 - 11, and no counter.
        dueLine("5 the killer", fallen, 0, 8, 99, 10);
        Check.due("5 the killed", 0, () -> fallen.strengthOf(1));
        Check.due("5 its morale", 2, () -> fallen.moraleOf(1));
        Check.due("5 the killed does nothing", 0, fallen::turn);
        Check.due("5 its morale stays", 2, () -> fallen.moraleOf(1));
        Check.due("5 on to its cell", 9, () -> fallen.columnOf(0));
        LineBattle weak = Scene.attackerFalls();
        Check.due("5 the attacker falls by the counter", ".........N", () -> Scene.lane(weak, 1));
        Check.due("5 its morale after 24", 2, () -> weak.moraleOf(0));
        moraleOfFive();
        supportInFight();
    }

    /** A morale of 5 still stands; Scene.rout() has a line that is routed with 4. */
    private static void moraleOfFive() {
        LineBattle b = new LineBattle();
        b.addLine(0, 0, 'c', 46);
        b.addLine(1, 0, 's', 99);
        b.setOrder(0, 'a');
        b.setOrder(1, 'a');
        Check.due("5 the salt fights, too", 2, () -> Scene.turns(b, 5).fightCount());
        // Clove: 15 and 5 of 10; the counter is 84 / 6 = 14 and 4. Salt: 15 and 5 of 6; the counter is 17 / 10 = 1.
        dueLine("5 salt of five", b, 1, 5, 83, 5);
        Check.due("5 salt of five stands", true, () -> b.isStanding(1));
        dueLine("5 clove of one", b, 0, 4, 17, 1);
        Check.due("5 clove of one is routed", true, () -> b.isRouted(0));
    }

    private static void supportInFight() {
        LineBattle b = new LineBattle();
        b.addLine(0, 0, 's', 30);
        b.addLine(0, 1, 'c', 30);
        b.addLine(0, 2, 's', 30);
        b.addLine(1, 1, 'n', 60);
        for (int i = 0; i < 3; i++) {
            b.setOrder(i, 'a');
        }
        Scene.turns(b, 8);
        b.setOrder(0, 'h');
        b.setOrder(2, 'h');
        Check.due("5 supported", 2, () -> b.supportOf(1));
        b.turn();
        // 10 and 2 for each of two lines: 14 and 4 of 18, then held; the counter is 46 / 4 = 11 and 3.
        dueLine("5 a supported line", b, 1, 8, 19, 7);
        dueLine("5 its enemy", b, 3, 9, 46, 15);
    }

    private static void routedInTurn() {
        LineBattle b = Scene.rout();
        b.turn();
        dueLine("5 routed goes back", b, 0, 3, 41, 5);
        dueLine("5 routed of side 1 goes back", b, 1, 6, 36, 4);
        Scene.turns(b, 3);
        dueLine("5 bold again", b, 0, 0, 41, 8);
        Check.due("5 stands again", true, () -> b.isStanding(0));
        Check.due("5 holds", 'h', () -> b.orderOf(0));
        dueLine("5 not yet bold", b, 1, 9, 36, 7);
        Check.due("5 still routed", true, () -> b.isRouted(1));
        b.turn();
        dueLine("5 routed at the border", b, 1, 9, 36, 8);
        dueLine("5 held then", b, 0, 0, 41, 9);
        LineBattle blocked = Scene.meeting();
        blocked.turn();
        blocked.addLine(0, 0, 's', 20);
        blocked.setOrder(2, 'a');
        Scene.turns(blocked, 4);
        Check.due("5 line behind the routed", "...sn!C!....", () -> Scene.lane(blocked, 0));
        blocked.setOrder(2, 'h');
        blocked.turn();
        Check.due("5 the routed is blocked", "...sn!.C!...", () -> Scene.lane(blocked, 0));
        Check.due("5 blocked, but bolder", 5, () -> blocked.moraleOf(0));
        Check.due("5 blocked turn counts", 1, () -> blocked.routedTurns(0));
        routedIsFought();
        routedInTheSameTurn();
    }

    private static void routedIsFought() {
        LineBattle b = Scene.rout();
        b.rally(0);
        b.setOrder(0, 'a');
        Check.due("5 a routed enemy is fought", 1, b::turn);
        // 41 / 5 + 2 = 10 and 3 of 3; the counter is 26 / 10 = 2; then the enemy goes back: morale 1.
        dueLine("5 against a routed enemy", b, 0, 4, 39, 10);
        dueLine("5 the routed enemy", b, 1, 6, 26, 1);
        Check.due("5 stays routed", true, () -> b.isRouted(1));
    }

    /** The greater number is routed before it acts, and acts as a routed line. */
    private static void routedInTheSameTurn() {
        LineBattle b = new LineBattle();
        b.addLine(0, 0, 'c', 99);
        b.addLine(1, 0, 's', 60);
        b.setOrder(0, 'a');
        b.setOrder(1, 'a');
        Scene.turns(b, 5);
        // 33 and 11 of 10: 0; the counter is 27 / 6 = 4 and 1; the routed line goes back with morale 1.
        dueLine("5 routed before it acts", b, 1, 6, 27, 1);
        dueLine("5 who routed it", b, 0, 4, 95, 9);
        Check.due("5 its first routed turn", 1, () -> b.routedTurns(1));
    }

    // Promises 6 to 17

    private static void lines() {
        LineBattle b = Scene.rout();
        b.addLine(1, 2, 's', 7);
        LineBattle fallen = Scene.fall();
        Check.due("6 lines", 3, b::lineCount);
        Check.due("6 the fallen count", 2, fallen::lineCount);
        Check.due("7 side 0", 0, () -> b.sideOf(0));
        Check.due("7 side 1", 1, () -> b.sideOf(2));
        Check.due("7 side of the fallen", 1, () -> fallen.sideOf(1));
        Check.due("8 lane", 2, () -> b.laneOf(2));
        Check.thrown("8 fallen", NO_ELEMENT, () -> fallen.laneOf(1));
        Check.due("9 column", 9, () -> b.columnOf(2));
        Check.due("9 column of the routed", 4, () -> b.columnOf(0));
        Check.thrown("9 fallen", NO_ELEMENT, () -> fallen.columnOf(1));
        Check.due("10 kind n", 'n', () -> b.kindOf(0));
        Check.due("10 kind c", 'c', () -> b.kindOf(1));
        Check.due("10 kind of the fallen", 's', () -> fallen.kindOf(1));
        Check.due("11 strength", 7, () -> b.strengthOf(2));
        Check.due("11 strength of the fallen", 0, () -> fallen.strengthOf(1));
        Check.due("12 morale", 10, () -> b.moraleOf(2));
        Check.due("12 morale of the routed", 4, () -> b.moraleOf(0));
        Check.due("13 order", 'c', () -> fallen.orderOf(0));
        Check.thrown("13 routed", STATE, () -> b.orderOf(0));
        Check.thrown("13 fallen", STATE, () -> fallen.orderOf(1));
        conditions(b, fallen);
        unknownLines(b);
        cells(b, fallen);
    }

    private static void conditions(LineBattle b, LineBattle fallen) {
        Check.due("14 stands", true, () -> b.isStanding(2));
        Check.due("14 routed", false, () -> b.isStanding(0));
        Check.due("14 fallen", false, () -> fallen.isStanding(1));
        Check.due("15 stands", false, () -> b.isRouted(2));
        Check.due("15 routed", true, () -> b.isRouted(0));
        Check.due("15 fallen", false, () -> fallen.isRouted(1));
        Check.due("16 not yet acted", 0, () -> b.routedTurns(0));
        Check.due("16 never routed", 0, () -> b.routedTurns(2));
        LineBattle later = Scene.turns(Scene.rout(), 6);
        Check.due("16 until it stood again", 4, () -> later.routedTurns(0));
        Check.due("16 the longer rout", 5, () -> later.routedTurns(1));
    }

    private static void unknownLines(LineBattle b) {
        for (int n : new int[] {-1, Integer.MIN_VALUE, 3, 12, Integer.MAX_VALUE}) {
            Check.thrown("7", BOUNDS, () -> b.sideOf(n));
            Check.thrown("8", BOUNDS, () -> b.laneOf(n));
            Check.thrown("9", BOUNDS, () -> b.columnOf(n));
            Check.thrown("10", BOUNDS, () -> b.kindOf(n));
            Check.thrown("11", BOUNDS, () -> b.strengthOf(n));
            Check.thrown("12", BOUNDS, () -> b.moraleOf(n));
            Check.thrown("13", BOUNDS, () -> b.orderOf(n));
            Check.thrown("14", BOUNDS, () -> b.isStanding(n));
            Check.thrown("15", BOUNDS, () -> b.isRouted(n));
            Check.thrown("16", BOUNDS, () -> b.routedTurns(n));
            Check.thrown("18", BOUNDS, () -> b.attackOf(n));
            Check.thrown("19", BOUNDS, () -> b.counterOf(n));
            Check.thrown("20", BOUNDS, () -> b.supportOf(n));
            Check.thrown("21", BOUNDS, () -> b.supportByLines(n));
            Check.thrown("22", BOUNDS, () -> b.enemyAhead(n));
            Check.thrown("23", BOUNDS, () -> b.enemyByDistances(n));
        }
    }

    private static void cells(LineBattle b, LineBattle fallen) {
        Check.due("17 line", 2, () -> b.lineIn(2, 9));
        Check.due("17 routed", 0, () -> b.lineIn(0, 4));
        Check.thrown("17 left", NO_ELEMENT, () -> b.lineIn(0, 3));
        Check.thrown("17 of the fallen", NO_ELEMENT, () -> fallen.lineIn(1, 9));
        Check.thrown("17 empty", NO_ELEMENT, () -> b.lineIn(2, 0));
        for (int wrong : new int[] {-1, Integer.MIN_VALUE, 10, Integer.MAX_VALUE}) {
            Check.thrown("17 no column", BOUNDS, () -> b.lineIn(2, wrong));
            Check.thrown("17 no lane", BOUNDS, () -> b.lineIn(wrong, 0));
        }
        Check.thrown("17 lane 3", BOUNDS, () -> b.lineIn(3, 9));
    }

    // Promises 18 to 25

    private static void fights() {
        int[][] attackAndCounter = {{'p', 99, 24, 12}, {'n', 99, 21, 24}, {'c', 99, 33, 9}, {'s', 99, 17, 16},
            {'p', 3, 0, 0}, {'n', 4, 2, 1}, {'c', 2, 0, 0}, {'s', 5, 1, 0}, {'p', 4, 1, 0}, {'p', 8, 2, 1},
            {'n', 5, 3, 1}, {'c', 3, 1, 0}, {'c', 10, 3, 1}, {'s', 6, 2, 1}};
        for (int[] row : attackAndCounter) {
            LineBattle b = new LineBattle();
            b.addLine(0, 0, (char) row[0], row[1]);
            b.addLine(0, 1, 's', 9);
            b.setOrder(0, 'c');
            Check.due("18 " + (char) row[0] + row[1], row[2], () -> b.attackOf(0));
            Check.due("19 " + (char) row[0] + row[1], row[3], () -> b.counterOf(0));
        }
        LineBattle fallen = Scene.fall();
        Check.due("18 fallen", 1, () -> fallen.attackOf(1));
        Check.due("19 fallen", 0, () -> fallen.counterOf(1));
        support();
        enemies();
        Check.due("24 fights", 2, () -> Scene.rout().fightCount());
        Check.due("24 no fights more", 2, () -> Scene.turns(Scene.rout(), 3).fightCount());
        turnsUntilFight();
    }

    private static void support() {
        LineBattle b = new LineBattle();
        b.addLine(0, 1, 'p', 9);
        b.addLine(1, 0, 'p', 9);
        dueSupport("alone", b, 0, 0);
        b.addLine(0, 0, 'p', 9);
        dueSupport("by one", b, 0, 1);
        dueSupport("at the border", b, 2, 1);
        b.addLine(0, 2, 'p', 9);
        dueSupport("by two", b, 0, 2);
        dueSupport("not by the next lane but one", b, 3, 1);
        b.setOrder(0, 'a');
        b.turn();
        dueSupport("gone on", b, 0, 0);
        dueSupport("left back", b, 2, 0);
        LineBattle enemies = new LineBattle();
        enemies.addLine(0, 0, 'p', 9);
        enemies.setOrder(0, 'c');
        Scene.turns(enemies, 5);
        enemies.addLine(1, 1, 'p', 9);
        dueSupport("not by an enemy", enemies, 1, 0);
        LineBattle routed = Scene.meeting();
        routed.addLine(0, 1, 's', 9);
        routed.setOrder(2, 'a');
        Scene.turns(routed, 3);
        routed.setOrder(2, 'h');
        Scene.turns(routed, 3);
        Check.due("20 beside the routed", "...n!..C!...", () -> Scene.lane(routed, 0));
        dueSupport("a routed line is supported", routed, 0, 1);
        dueSupport("a routed line does not support", routed, 2, 0);
        LineBattle fallen = Scene.fall();
        Check.thrown("20 fallen", NO_ELEMENT, () -> fallen.supportOf(1));
        Check.thrown("21 fallen", NO_ELEMENT, () -> fallen.supportByLines(1));
        fallen.addLine(1, 0, 'p', 9);
        dueSupport("not by the fallen", fallen, 2, 0);
    }

    private static void dueSupport(String what, LineBattle b, int line, int want) {
        Check.due("20 " + what, want, () -> b.supportOf(line));
        Check.due("21 " + what, want, () -> b.supportByLines(line));
    }

    private static void enemies() {
        LineBattle b = Scene.meeting();
        b.addLine(0, 1, 'p', 9);
        b.addLine(1, 2, 'p', 9);
        b.turn();
        b.addLine(0, 0, 's', 9);
        b.addLine(1, 0, 's', 9);
        dueEnemy("the first", b, 0, 1);
        dueEnemy("of side 1", b, 1, 0);
        dueEnemy("not hidden by the own line", b, 4, 1);
        dueEnemy("not hidden by the own line of side 1", b, 5, 0);
        noEnemy("in this lane", b, 2);
        noEnemy("in this lane of side 1", b, 3);
        dueEnemy("routed", Scene.rout(), 0, 1);
        dueEnemy("of a routed line", Scene.rout(), 1, 0);
        LineBattle fallen = Scene.fall();
        noEnemy("but a fallen one", fallen, 0);
        noEnemy("for the fallen", fallen, 1);
        fallen.turn();
        Check.due("22 at the end", 9, () -> fallen.columnOf(0));
        fallen.addLine(0, 1, 'p', 9);
        noEnemy("at the end", fallen, 0);
        LineBattle behind = new LineBattle();
        behind.addLine(0, 0, 'p', 9);
        behind.setOrder(0, 'c');
        Scene.turns(behind, 4);
        behind.setOrder(0, 'h');
        behind.addLine(1, 0, 'p', 9);
        dueEnemy("next", behind, 1, 0);
    }

    private static void dueEnemy(String what, LineBattle b, int line, int want) {
        Check.due("22 " + what, want, () -> b.enemyAhead(line));
        Check.due("23 " + what, want, () -> b.enemyByDistances(line));
    }

    private static void noEnemy(String what, LineBattle b, int line) {
        Check.thrown("22 none " + what, NO_ELEMENT, () -> b.enemyAhead(line));
        Check.thrown("23 none " + what, NO_ELEMENT, () -> b.enemyByDistances(line));
    }

    private static void turnsUntilFight() {
        LineBattle b = new LineBattle();
        Check.thrown("25 empty", NO_ELEMENT, b::turnsUntilFight);
        b.addLine(0, 0, 'p', 40);
        b.addLine(1, 0, 'p', 40);
        Check.thrown("25 both hold", NO_ELEMENT, b::turnsUntilFight);
        b.setOrder(0, 'a');
        Check.due("25 eight cells", 9, b::turnsUntilFight);
        Check.due("25 nothing changed", "p........P", () -> Scene.lane(b, 0));
        Check.due("25 no turn passed", 0, b::turnCount);
        Check.due("25 no fight counted", 0, b::fightCount);
        Check.due("25 morale", 10, () -> b.moraleOf(1));
        b.setOrder(0, 'c');
        Check.due("25 charge", 4, b::turnsUntilFight);
        Scene.turns(b, 3);
        Check.due("25 next", 1, b::turnsUntilFight);
        Check.due("25 right", 1, b::turn);
        Check.due("25 the fight is a modification, the question is none", 7, b::undo);
        Check.due("25 before the fight", 0, b::fightCount);
        LineBattle afterRout = Scene.rout();
        Check.thrown("25 both stand again and hold", NO_ELEMENT, afterRout::turnsUntilFight);
        LineBattle far = Scene.meeting();
        far.setOrder(1, 'h');
        far.addLine(0, 1, 'p', 1);
        Check.due("25 meeting one", 9, far::turnsUntilFight);
        predictedFight();
    }

    private static void predictedFight() {
        LineBattle b = new LineBattle();
        b.addLine(0, 0, 'c', 99);
        b.addLine(1, 0, 'n', 40);
        b.setOrder(0, 'a');
        b.setOrder(1, 'c');
        for (int left = 3; left > 1; left--) {
            int want = left;
            Check.due("25 turns left", want, b::turnsUntilFight);
            Check.due("25 no fight before", 0, b::turn);
        }
        Check.due("25 one left", 1, b::turnsUntilFight);
        Check.due("25 the fight", true, () -> b.turn() > 0);
    }

    // Promises 26 to 33

    private static void sides() {
        LineBattle b = Scene.rout();
        for (int wrong : new int[] {-1, 2, Integer.MIN_VALUE, Integer.MAX_VALUE}) {
            Check.thrown("26", ARGUMENT, () -> b.jarsOf(wrong));
            Check.thrown("27", ARGUMENT, () -> b.strengthOfSide(wrong));
            Check.thrown("28", ARGUMENT, () -> b.strengthByCells(wrong));
            Check.thrown("29", ARGUMENT, () -> b.fallenOf(wrong));
            Check.thrown("30", ARGUMENT, () -> b.frontOf(wrong, 0));
            Check.thrown("30", ARGUMENT, () -> b.frontOf(wrong, -1));
        }
        b.rally(1);
        Check.due("26 not used", 3, () -> b.jarsOf(0));
        Check.due("26 used", 2, () -> b.jarsOf(1));
        b.addLine(0, 2, 'p', 5);
        b.addLine(1, 1, 'p', 8);
        dueStrength("27 and 28", b, 0, 46);
        dueStrength("27 and 28", b, 1, 44);
        dueStrength("27 and 28 fallen", Scene.fall(), 0, 99);
        dueStrength("27 and 28 fallen", Scene.fall(), 1, 0);
        dueStrength("27 and 28 empty", new LineBattle(), 1, 0);
        Check.due("29 none", 0, () -> b.fallenOf(1));
        Check.due("29 routed", 0, () -> Scene.rout().fallenOf(0));
        Check.due("29 fallen", 1, () -> Scene.fall().fallenOf(1));
        Check.due("29 of the other side", 0, () -> Scene.fall().fallenOf(0));
        fronts();
        ranks();
        Check.due("33 turns", 5, () -> Scene.rout().turnCount());
    }

    private static void dueStrength(String what, LineBattle b, int side, int want) {
        Check.due(what, want, () -> b.strengthOfSide(side));
        Check.due(what, want, () -> b.strengthByCells(side));
    }

    private static void fronts() {
        LineBattle b = Scene.meeting();
        b.turn();
        b.addLine(0, 0, 's', 9);
        b.addLine(1, 0, 's', 9);
        Check.due("30 side 0", 1, () -> b.frontOf(0, 0));
        Check.due("30 side 1", 8, () -> b.frontOf(1, 0));
        Check.thrown("30 no line", NO_ELEMENT, () -> b.frontOf(0, 1));
        Check.thrown("30 lane 3", ARGUMENT, () -> b.frontOf(0, 3));
        Check.thrown("30 lane -1", ARGUMENT, () -> b.frontOf(1, -1));
        Check.due("30 routed", 4, () -> Scene.rout().frontOf(0, 0));
        LineBattle first = new LineBattle();
        first.addLine(0, 2, 's', 9);
        first.addLine(1, 1, 's', 9);
        Check.due("30 column 0", 0, () -> first.frontOf(0, 2));
        Check.due("30 column 9", 9, () -> first.frontOf(1, 1));
        first.setOrder(0, 'c');
        first.setOrder(1, 'c');
        Scene.turns(first, 5);
        Check.due("30 side 0 in column 9", 9, () -> first.frontOf(0, 2));
        Check.due("30 side 1 in column 0", 0, () -> first.frontOf(1, 1));
        Check.thrown("30 fallen", NO_ELEMENT, () -> Scene.fall().frontOf(1, 1));
    }

    private static void ranks() {
        LineBattle b = new LineBattle();
        Check.thrown("31 empty", NO_ELEMENT, b::leader);
        Check.thrown("32 empty", NO_ELEMENT, () -> b.lineByStrength(0));
        b.addLine(0, 0, 'p', 20);
        Check.due("31 side 0", 0, b::leader);
        b.addLine(1, 0, 'p', 20);
        Check.thrown("31 the same", NO_ELEMENT, b::leader);
        b.addLine(1, 1, 'p', 1);
        Check.due("31 side 1 by one", 1, b::leader);
        b.addLine(0, 2, 'p', 2);
        Check.due("31 side 0 by one", 0, b::leader);
        b.undo();
        b.addLine(0, 2, 'p', 50);
        int[] ranks = {3, 0, 1, 2};
        for (int rank = 0; rank < 4; rank++) {
            int r = rank;
            Check.due("32 rank " + r, ranks[r], () -> b.lineByStrength(r));
        }
        for (int wrong : new int[] {-1, 4, 12, Integer.MIN_VALUE, Integer.MAX_VALUE}) {
            Check.thrown("32 no rank", NO_ELEMENT, () -> b.lineByStrength(wrong));
        }
        Check.due("32 the fallen are last", 1, () -> Scene.fall().lineByStrength(1));
    }

    // Promises 34 to 38

    private static void statistics() {
        LineBattle b = Scene.rout();
        Check.due("34 routed", 12, () -> b.writeLane(0));
        Check.due("34 text", "....n!C!....", () -> Scene.lane(b, 0));
        Check.due("35 last", '.', () -> b.writtenAt(11));
        for (int wrong : new int[] {-1, 12, 20, Integer.MIN_VALUE, Integer.MAX_VALUE}) {
            Check.thrown("35 no character", BOUNDS, () -> b.writtenAt(wrong));
        }
        for (int wrong : new int[] {-1, 3, Integer.MIN_VALUE, Integer.MAX_VALUE}) {
            Check.thrown("34 no lane", BOUNDS, () -> b.writeLane(wrong));
        }
        Check.due("35 kept after a wrong lane", '!', () -> b.writtenAt(5));
        b.turn();
        b.undo();
        b.save();
        b.restore();
        Check.due("35 kept through turns, undo and restore", 'C', () -> b.writtenAt(6));
        Check.due("34 the shorter", 10, () -> b.writeLane(1));
        Check.thrown("35 the shorter", BOUNDS, () -> b.writtenAt(10));
        LineBattle all = new LineBattle();
        all.addLine(0, 0, 'p', 9);
        all.addLine(1, 0, 'n', 9);
        all.addLine(0, 1, 'c', 9);
        all.addLine(1, 1, 's', 9);
        Check.due("34 p and N", "p........N", () -> Scene.lane(all, 0));
        Check.due("34 c and S", "c........S", () -> Scene.lane(all, 1));
        means();
        consistency();
    }

    private static void means() {
        LineBattle b = new LineBattle();
        Check.thrown("36 empty", ARITHMETIC, b::meanMorale);
        Check.thrown("37 empty", ARITHMETIC, b::standingShare);
        Check.due("36 routed", 3.5, () -> Scene.rout().meanMorale());
        Check.due("37 routed", 0.0f, () -> Scene.rout().standingShare());
        LineBattle three = Scene.rout();
        three.addLine(0, 1, 'p', 9);
        Check.due("36 three", 17.0 / 3.0, three::meanMorale);
        Check.due("37 three", 1.0f / 3.0f, three::standingShare);
        Check.due("36 without the fallen", 10.0, () -> Scene.fall().meanMorale());
        Check.due("37 with the fallen", 0.5f, () -> Scene.fall().standingShare());
        LineBattle weak = Scene.attackerFalls();
        Check.due("36 without the fallen of side 0", 19.0, weak::meanMorale);
        Check.due("28 without the fallen of side 0", 99, () -> weak.strengthByCells(1));
        Check.due("29 of side 0", 1, () -> weak.fallenOf(0));
    }

    private static void consistency() {
        Check.due("38 empty", true, () -> new LineBattle().isConsistent());
        Check.due("38 rout", true, () -> Scene.rout().isConsistent());
        Check.due("38 fall", true, () -> Scene.fall().isConsistent());
        LineBattle undone = Scene.fall();
        undone.undo();
        Check.due("38 undone", true, undone::isConsistent);
        undone.save();
        undone.turn();
        undone.restore();
        Check.due("38 restored", true, undone::isConsistent);
    }

    // Promises 39 to 42

    private static void texts() {
        LineBattle b = new LineBattle();
        for (int wrong : new int[] {0, 10, 31, 127, 128, 255, 65535}) {
            Check.thrown("39 no character", ARGUMENT, () -> b.type((char) wrong));
        }
        Check.due("39 blank", 1, () -> b.type(' '));
        Check.due("39 tilde", 2, () -> b.type('~'));
        for (int i = 2; i < 60; i++) {
            int length = i + 1;
            Check.due("39 up to 60", length, () -> b.type('x'));
        }
        Check.thrown("39 full", STATE, () -> b.type('x'));
        Check.thrown("39 full and wrong", ARGUMENT, () -> b.type((char) 31));
        Check.thrown("40 malformed", ARGUMENT, b::execute);
        Check.due("40 empty afterwards", 1, () -> b.type('t'));
        execute();
        malformed();
        failing();
    }

    private static void execute() {
        LineBattle b = new LineBattle();
        Check.due("40 two lines", 2, () -> Scene.run(b, "line 0 2 p 7;line 1 2 n 99"));
        Check.due("40 lane", "p........N", () -> Scene.lane(b, 2));
        Check.due("40 strength of one digit", 7, () -> b.strengthOf(0));
        Check.due("40 strength of two digits", 99, () -> b.strengthOf(1));
        Check.due("40 order", 1, () -> Scene.run(b, "order 00 a"));
        Check.due("40 the order", 'a', () -> b.orderOf(0));
        Check.due("40 with kinds", 2, () -> Scene.run(b, "line 0 0 c 01;line 0 1 s 10"));
        Check.due("40 twelve", 12, () -> Scene.run(b, "turn;turn;turn;turn;turn;turn;turn;turn;turn;turn;turn;turn"));
        Check.due("40 turns", 12, b::turnCount);
        Check.thrown("41 none", NO_ELEMENT, b::errorPosition);
        Check.thrown("42 none", NO_ELEMENT, b::failedCommand);
        LineBattle routed = Scene.rout();
        Check.due("40 rally", 2, () -> Scene.run(routed, "rally 0;rally 01"));
        Check.due("40 rallied", 10, () -> routed.moraleOf(0));
        Check.due("40 one modification", 7, routed::undo);
        Check.due("40 before it", 4, () -> routed.moraleOf(0));
        Check.due("40 its jars", 3, () -> routed.jarsOf(1));
    }

    private static void malformed() {
        String[] texts = {"", "0", "x", "0", "tarn", "1", "turn ", "4", "turn;", "5", "turn;;", "5", " turn", "0",
            "tur", "3", "turn;line", "9", "line0", "4", "line 0 0 p 100", "13", "line 0 0 x 1", "9", "line 00", "6",
            "line 0 00", "8", "line 0 0 p", "10", "line 0 0 p ", "11", "line 0 0 pp", "10", "line 0 0 p x", "11",
            "line a", "5", "line 0 b", "7", "order 0", "7", "order 0 ", "8", "order 0 p", "8", "order 012", "8",
            "order 0h", "7", "order 10x", "8", "rally", "5", "rally ", "6", "rally x", "6", "rally 0 ", "7",
            "rally 123", "8", "rally 0x", "7", "rally 0;", "8", "Turn", "0", "order 0 h;o", "11", "order 0 hh", "9",
            "line -1", "5", "line  p 1", "5", "line 0  p 1", "7", "order  h", "6", "line 0 0  1", "9",
            "order 0  ", "8"};
        for (int i = 0; i < texts.length; i += 2) {
            String text = texts[i];
            LineBattle b = Scene.rout();
            Check.thrown("40 '" + text + "'", ARGUMENT, () -> Scene.run(b, text));
            Check.due("41 '" + text + "'", texts[i + 1], b::errorPosition);
            Check.thrown("42 '" + text + "'", NO_ELEMENT, b::failedCommand);
            Check.due("40 nothing done", 5, b::turnCount);
            Check.due("40 empty after '" + text + "'", 1, () -> b.type('t'));
        }
        LineBattle shorter = new LineBattle();
        Scene.run(shorter, "turn;turn");
        Check.thrown("40 nothing of the text before", ARGUMENT, () -> Scene.run(shorter, "turn;tur"));
        Check.due("41 the end of the shorter text", 8, shorter::errorPosition);
        LineBattle kept = new LineBattle();
        Check.thrown("41 first", ARGUMENT, () -> Scene.run(kept, "turn;tu"));
        kept.turn();
        Scene.run(kept, "turn");
        Check.due("41 kept", 7, kept::errorPosition);
        Check.due("40 malformed as a whole", 2, kept::turnCount);
        kept.undo();
        Check.due("41 kept through undo", 7, kept::errorPosition);
        Check.thrown("41 again", ARGUMENT, () -> Scene.run(kept, "ta"));
        Check.due("41 the last", 1, kept::errorPosition);
    }

    private static void failing() {
        LineBattle b = new LineBattle();
        String[] texts = {"turn;line 0 0 p 7;line 0 0 p 8", "2", "rally 0", "0", "turn;order 0 h", "1",
            "line 2 0 p 7", "0", "line 0 3 p 7", "0", "line 0 0 p 0", "0", "turn;turn;line 0 0 p 00", "2",
            "line 0 0 p 7;rally 0", "1", "line 0 0 p 7;order 99 h", "1", "line 1 0 p 1;line 1 0 p 1;x", ""};
        for (int i = 0; i < texts.length - 2; i += 2) {
            String text = texts[i];
            Check.thrown("40 '" + text + "'", STATE, () -> Scene.run(b, text));
            Check.due("42 '" + text + "'", texts[i + 1], b::failedCommand);
            Check.due("40 taken back: lines", 0, b::lineCount);
            Check.due("40 taken back: turns", 0, b::turnCount);
            Check.due("40 taken back: lane", "..........", () -> Scene.lane(b, 0));
        }
        Check.thrown("40 failing no modification", STATE, b::undo);
        Check.thrown("41 still none", NO_ELEMENT, b::errorPosition);
        Check.thrown("40 malformed comes first", ARGUMENT, () -> Scene.run(b, texts[texts.length - 2]));
        Check.due("42 kept", 1, b::failedCommand);
        Check.due("40 empty after failing", 1, () -> {
            Check.outcome(() -> Scene.run(b, "rally 7"));
            return b.type('t');
        });
        Check.due("42 the last", 0, b::failedCommand);
        LineBattle full = Scene.rout();
        Check.thrown("40 jars taken back", STATE, () -> Scene.run(full, "rally 0;rally 1;rally 0"));
        Check.due("40 the jars", 6, () -> full.jarsOf(0) + full.jarsOf(1));
        Check.due("40 routed again", true, () -> full.isRouted(0));
    }

    // Promises 43 to 45

    private static void undoAndSnapshots() {
        LineBattle b = new LineBattle();
        for (int i = 0; i < 10; i++) {
            b.turn();
        }
        for (int left = 7; left >= 0; left--) {
            int want = left;
            Check.due("43 left", want, b::undo);
        }
        Check.due("43 the last 8", 2, b::turnCount);
        Check.thrown("43 no more", STATE, b::undo);
        b.turn();
        Check.due("43 again", 0, b::undo);
        LineBattle rout = Scene.rout();
        rout.rally(0);
        rout.undo();
        Check.due("43 rally: morale", 4, () -> rout.moraleOf(0));
        Check.due("43 rally: jar", 3, () -> rout.jarsOf(0));
        rout.undo();
        Check.due("43 turn: lane", "....nC....", () -> Scene.lane(rout, 0));
        Check.due("43 turn: fights", 0, rout::fightCount);
        Check.due("43 turn: strength", 60, () -> rout.strengthOf(0));
        Scene.turns(rout, 3);
        Check.due("43 anew: routed turns", 2, () -> rout.routedTurns(0));
        rout.undo();
        Check.due("43 routed turns", 1, () -> rout.routedTurns(0));
        LineBattle order = Scene.meeting();
        order.turn();
        order.undo();
        Check.due("43 back in the first cell", 0, () -> order.lineIn(0, 0));
        Check.due("43 back in the last cell", 1, () -> order.lineIn(0, 9));
        Check.thrown("43 the next cell is empty", NO_ELEMENT, () -> order.lineIn(0, 1));
        order.undo();
        Check.due("43 order", 'h', () -> order.orderOf(1));
        order.undo();
        order.undo();
        Check.due("43 line", 1, order::lineCount);
        Check.thrown("43 its cell", NO_ELEMENT, () -> order.lineIn(0, 9));
        Check.due("43 added again", 1, () -> order.addLine(1, 2, 's', 3));
        order.undo();
        order.addLine(1, 1, 'p', 5);
        order.turn();
        order.undo();
        Check.due("43 its lane", 1, () -> order.laneOf(1));
        Check.due("43 its kind", 'p', () -> order.kindOf(1));
        Check.due("43 its strength", 5, () -> order.strengthOf(1));
        Check.due("43 the first line", 0, () -> order.lineIn(0, 0));
        Check.due("43 its order", 'h', () -> order.orderOf(0));
        bufferStays();
        saveAndRestore();
    }

    private static void bufferStays() {
        LineBattle b = new LineBattle();
        b.turn();
        Scene.type(b, "tur");
        b.undo();
        b.save();
        b.restore();
        Check.due("43 the buffer stays", 4, () -> b.type('n'));
        Check.due("40 the buffer that stayed", 1, b::execute);
    }

    private static void saveAndRestore() {
        LineBattle b = new LineBattle();
        Check.thrown("45 no snapshot", STATE, b::restore);
        Check.due("44 empty", 0, b::save);
        b.addLine(0, 0, 'p', 9);
        b.addLine(1, 0, 'p', 9);
        Check.due("45 empty", 0, b::restore);
        Check.thrown("45 nothing to undo", STATE, b::undo);
        Check.due("45 lines", 0, b::lineCount);
        LineBattle c = Scene.rout();
        Check.due("44 lines", 2, c::save);
        Check.due("44 no modification", 7, () -> {
            c.addLine(0, 0, 'p', 1);
            return c.undo();
        });
        Scene.turns(c, 2);
        c.addLine(1, 2, 's', 1);
        c.rally(0);
        Check.due("45 lines afterwards", 2, c::restore);
        Check.due("45 lane", "....n!C!....", () -> Scene.lane(c, 0));
        Check.due("45 turns", 5, c::turnCount);
        Check.due("45 fights", 2, c::fightCount);
        Check.due("45 jars", 6, () -> c.jarsOf(0) + c.jarsOf(1));
        c.turn();
        Check.due("45 kept", 2, c::restore);
        Check.due("45 turns again", 5, c::turnCount);
        c.turn();
        Check.due("44 replaced", 2, c::save);
        Scene.turns(c, 2);
        c.restore();
        Check.due("45 the later snapshot", 6, c::turnCount);
        c.turn();
        Check.due("43 undo after restore", 0, c::undo);
        Check.due("43 to the snapshot", 6, c::turnCount);
        otherLineInstead();
    }

    /** The snapshot's line comes back where another was added instead. */
    private static void otherLineInstead() {
        LineBattle b = new LineBattle();
        b.addLine(0, 0, 'p', 7);
        b.setOrder(0, 'c');
        b.save();
        b.undo();
        b.undo();
        b.addLine(1, 2, 's', 9);
        Check.due("45 one line", 1, b::restore);
        Check.due("45 its side", 0, () -> b.sideOf(0));
        Check.due("45 its lane", 0, () -> b.laneOf(0));
        Check.due("45 its kind", 'p', () -> b.kindOf(0));
        Check.due("45 its order", 'c', () -> b.orderOf(0));
        dueLine("45 the line", b, 0, 0, 7, 10);
        Check.due("45 its cell", 0, () -> b.lineIn(0, 0));
        Check.thrown("45 the other's cell", NO_ELEMENT, () -> b.lineIn(2, 9));
    }
}
