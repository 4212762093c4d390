/** The terms from the fights to the jars, and what is clarified, sentence by sentence. */
final class FightSentences {
    private static final String TERMS = "Terms";

    private FightSentences() {
    }

    static void check() {
        damage();
        loss();
        counter();
        ends();
        order();
        holdAndAdvance();
        charge();
        routed();
        jars();
        clarified();
    }

    /** The attacker, of side 0, meets the enemy in turn 4, who has held until then: with morale 14, in column 9. */
    private static LineBattle charged(String enemy, String attacker) {
        return Scene.turns(Scene.battle("1 0 " + enemy + " h", "0 0 " + attacker + " c"), 4);
    }

    private static String state(int column, int strength, int morale, char order) {
        if (strength == 0) {
            return "fallen 0 " + morale;
        }
        return column + " " + strength + " " + morale + " " + (morale < 5 ? '!' : order);
    }

    private static void damage() {
        Doc.says(TERMS, "Fights. When a line fights with an enemy, the damage is its attack plus 2 for each line that "
            + "supports it.");
        // The attack is 10: by supporting lines 10, 12 and 14.
        String[] supporting = {"", "0 0 s 9 c", "0 2 s 9 c", "0 0 s 9 c,0 2 s 9 c"};
        String[] enemies = {"9 89 11 h", "9 87 10 h", "9 87 10 h", "9 85 10 h"};
        for (int i = 0; i < 4; i++) {
            LineBattle b = Scene.battle("1 1 s 99 h");
            for (String line : supporting[i].isEmpty() ? new String[0] : supporting[i].split(",")) {
                Scene.add(b, line);
            }
            int attacker = Scene.add(b, "0 1 c 30 c");
            Scene.turns(b, 4);
            Scene.due(b, 0, enemies[i]);
            Scene.due(b, attacker, "8 16 6 c");
        }
        // Both at once: 10, 6 for the charge and 4.
        LineBattle pepper = Scene.battle("1 1 s 99 h", "0 0 s 9 c", "0 2 s 9 c", "0 1 p 40 c");
        Scene.due(Scene.turns(pepper, 4), 0, "9 79 8 h");
        LineBattle late = Scene.turns(Scene.battle("1 1 s 99 h", "0 1 c 30 c", "0 0 s 9 c", "0 2 s 9 c"), 4);
        Scene.due(late, 0, "9 89 11 h");
        Check.due("they came too late", 2, () -> late.supportOf(1));
        LineBattle enemys = Scene.turns(Scene.battle("1 1 s 99 h", "1 0 s 9 h", "1 2 s 9 h", "0 1 c 30 c"), 4);
        Check.due("the enemy is supported, too", 2, () -> enemys.supportOf(0));
        Scene.due(enemys, 0, "9 89 11 h");
        Scene.due(enemys, 3, "8 16 6 c");
        routedSupportsNobody();
    }

    /** In turn 5 line 2 is routed before line 1 fights beside it, and goes back only after that. */
    private static void routedSupportsNobody() {
        LineBattle b = Scene.turns(Scene.battle("1 0 c 90 a", "0 1 c 30 a", "0 0 s 99 a", "1 1 s 99 a"), 4);
        b.setOrder(3, 'h');
        Check.due("before the fights", 1, () -> b.supportOf(1));
        b.turn();
        // 30 and 2, as line 3 supports line 0 in this.
        Scene.due(b, 2, "3 67 1 !");
        Scene.due(b, 3, "5 89 8 h");
    }

    private static void loss() {
        Doc.says(TERMS, "The strength of the enemy decreases by the damage, but not below 0, and its morale by a third "
            + "of the damage, rounded down, but not below 0.");
        for (int damage = 1; damage <= 33; damage++) {
            LineBattle b = charged("s 99", "c " + 3 * damage);
            Scene.due(b, 0, state(9, 99 - damage, 14 - damage / 3, 'h'));
        }
        Scene.due(charged("s 34", "c 99"), 0, "9 1 3 !");
        Scene.due(charged("s 33", "c 99"), 0, "fallen 0 3");
        Scene.due(charged("s 32", "c 99"), 0, "fallen 0 3");
        Scene.due(charged("s 1", "c 99"), 0, "fallen 0 3");
        // 30 and 10 of 10, and 33 and 11 of 10; the salt is routed before it acts, goes back and gets one.
        Scene.due(Scene.hitInTurnFive(90), 1, "6 69 1 !");
        Scene.due(Scene.hitInTurnFive(99), 1, "6 66 1 !");
        Scene.due(Scene.hitInTurnFive(87), 1, "6 70 2 !");
        LineBattle weak = charged("n 99", "p 4");
        // 1 and 6 more; the counter is 92 / 4 = 23 and 7.
        Scene.due(weak, 0, "9 92 12 h");
        Scene.due(weak, 1, "fallen 0 3");
        LineBattle none = Scene.turns(Scene.battle("0 0 p 3 a", "1 0 p 99 h"), 8);
        Check.due("a fight without damage is one", 1, none::turn);
        Scene.due(none, 1, "9 99 19 h");
        Scene.due(none, 0, "fallen 0 6");
    }

    private static void counter() {
        Doc.says(TERMS, "If the enemy still has strength, the strength of the line decreases by the counter of the "
            + "enemy, which is computed from the strength that the enemy has then, and its morale by a third of this "
            + "counter, rounded down, both not below 0.");
        // Salt 99 has the attack 17.
        for (int enemy = 1; enemy <= 99; enemy++) {
            int counter = Math.max(0, enemy - 17) / 4;
            Scene.due(charged("n " + enemy, "s 99"), 1, state(8, 99 - counter, 10 - counter / 3, 'c'));
        }
        // Counters 23 of 24 and of 23: 7 of the morale.
        Scene.due(charged("n 99", "s 24"), 1, "8 1 3 !");
        Scene.due(charged("n 99", "s 23"), 1, "fallen 0 3");
        Scene.due(charged("n 99", "s 1"), 1, "fallen 0 2");
        // Nutmeg hits with 17 and 5; then pepper 23 hits with 5 and gets 72 / 4 = 18 and 6 of 5.
        LineBattle low = Scene.turns(Scene.battle("0 0 n 79 a", "1 0 p 40 a"), 5);
        Scene.due(low, 0, "4 72 9 a");
        Scene.due(low, 1, "5 5 0 !");
    }

    private static void ends() {
        Doc.says(TERMS, "Then each of both whose strength is 0 falls; otherwise, if it stands and its morale is less "
            + "than 5, it is routed.");
        // The damages 27 and 30 leave morale 5 and 4.
        Scene.due(charged("s 99", "c 81"), 0, "9 72 5 h");
        Scene.due(charged("s 99", "c 89"), 0, "9 70 5 h");
        Scene.due(charged("s 99", "c 90"), 0, "9 69 4 !");
        // The counters 17 and 18 leave morale 5 and 4.
        Scene.due(charged("n 88", "s 99"), 1, "8 82 5 c");
        Scene.due(charged("n 89", "s 99"), 1, "8 81 4 !");
        LineBattle enemyFalls = charged("s 33", "c 99");
        Check.due("the fallen enemy is not routed", false, () -> enemyFalls.isRouted(0));
        Check.due("nor does it stand", false, () -> enemyFalls.isStanding(0));
        Scene.due(enemyFalls, 1, "8 99 10 c");
        LineBattle lineFalls = charged("n 99", "s 23");
        Check.due("the fallen line is not routed", false, () -> lineFalls.isRouted(1));
        Check.due("nor does it stand", false, () -> lineFalls.isStanding(1));
        Check.thrown("its cell", Scene.NO_ELEMENT, () -> lineFalls.lineIn(0, 8));
        LineBattle strong = Scene.turns(Scene.hitInTurnFive(99), 5);
        Scene.due(strong, 1, "9 37 1 !");
        Check.due("the routed enemy is routed on", 6, () -> strong.routedTurns(1));
    }

    private static void order() {
        Doc.says(TERMS, "Turns. In a turn, the lines act in the order of their numbers; a line that has fallen does "
            + "nothing.");
        LineBattle b = Scene.turns(Scene.battle("1 2 p 9 a"), 1);
        Scene.add(b, "1 2 n 9 a");
        b.turn();
        Check.due("the first makes room", ".......PN.", () -> Scene.lane(b, 2));
        LineBattle reverse = Scene.turns(Scene.battle("0 2 p 9 h", "1 0 p 9 a", "0 1 p 9 h"), 1);
        Scene.add(reverse, "1 0 n 9 a");
        Check.due("room at once", 8, () -> reverse.columnOf(1));
        reverse.turn();
        Check.due("the second follows", ".......PN.", () -> Scene.lane(reverse, 0));
        // The first takes one of the two cells between them, and the second charges over the other.
        LineBattle first = Scene.turns(Scene.battle("0 0 s 9 a", "1 0 n 9 c"), 2);
        Check.due("two cells between", "..s..N....", () -> Scene.lane(first, 0));
        Check.due("the second charges on", 1, first::turn);
        Scene.due(first, 0, "3 6 9 a");
        Scene.due(first, 1, "4 8 10 c");
        LineBattle killed = Scene.turns(Scene.battle("0 0 c 99 a", "1 0 s 30 a"), 4);
        Check.due("who falls in a turn does not act in it", 1, killed::turn);
        Scene.due(killed, 0, "4 99 10 a");
        Scene.due(killed, 1, "fallen 0 0");
        Check.due("nor later", 0, killed::turn);
        Scene.due(killed, 0, "5 99 10 a");
        Scene.due(killed, 1, "fallen 0 0");
        // Routed and chased, it falls in turn 10 at the border, after five turns as a routed line.
        LineBattle chased = Scene.turns(Scene.battle("0 0 c 99 a", "1 0 s 60 a"), 9);
        Scene.due(chased, 1, "9 27 5 !");
        chased.turn();
        Scene.due(chased, 1, "fallen 0 0");
        chased.turn();
        Scene.due(chased, 1, "fallen 0 0");
        Check.due("its routed turns", 5, () -> chased.routedTurns(1));
    }

    private static void holdAndAdvance() {
        Doc.says(TERMS, "A line that stands acts by its order.");
        Scene.due(Scene.turns(Scene.battle("0 0 p 9 h"), 1), 0, "0 9 11 h");
        Scene.due(Scene.turns(Scene.battle("0 0 p 9 a"), 1), 0, "1 9 10 a");
        Scene.due(Scene.turns(Scene.battle("0 0 p 9 c"), 1), 0, "2 9 10 c");
        Doc.says(TERMS, "For h (hold), its morale increases by 1, up to 20.");
        LineBattle hold = Scene.turns(Scene.battle("1 2 p 9 h"), 9);
        Scene.due(hold, 0, "9 9 19 h");
        Scene.due(Scene.turns(hold, 1), 0, "9 9 20 h");
        Scene.due(Scene.turns(hold, 1), 0, "9 9 20 h");
        LineBattle facing = Scene.turns(Scene.battle("0 0 s 99 a", "1 0 s 99 h"), 8);
        facing.setOrder(0, 'h');
        Check.due("no fight in front of an enemy", 0, facing::turn);
        Scene.due(facing, 0, "8 99 11 h");
        Doc.says(TERMS, "For a (advance), it looks at the next cell forward: if an enemy is there, it fights with it; "
            + "if the cell is in the field and empty, it moves there.");
        LineBattle b = Scene.turns(Scene.battle("1 0 s 99 h", "0 0 p 40 a"), 7);
        Scene.due(b, 1, "7 40 10 a");
        Check.due("moves and does not fight", 0, b::turn);
        Scene.due(b, 1, "8 40 10 a");
        Check.due("fights and does not move", 1, b::turn);
        // 10 and 3 of 19, without the charge; the counter is 89 / 6 = 14 and 4.
        Scene.due(b, 0, "9 89 16 h");
        Scene.due(b, 1, "8 26 6 a");
        LineBattle wins = Scene.turns(Scene.battle("0 0 c 99 a", "1 0 s 5 h"), 9);
        Check.due("does not move when the enemy falls", "........c.", () -> Scene.lane(wins, 0));
        borders('a');
        LineBattle own = Scene.turns(Scene.battle("0 1 p 9 a"), 1);
        Scene.add(own, "0 1 n 9 a");
        own.setOrder(0, 'h');
        Check.due("no fight with its own line", 0, own::turn);
        Scene.due(own, 1, "0 9 10 a");
    }

    /** The next cell of the last one is not in the field: not the first of another lane, nor one of an enemy. */
    private static void borders(char order) {
        LineBattle b = Scene.turns(Scene.battle("0 0 s 99 " + order, "1 1 s 99 " + order), 9);
        Check.due("at the end", ".........s", () -> Scene.lane(b, 0));
        Check.due("at the end of side 1", "S.........", () -> Scene.lane(b, 1));
        Check.due("no fight over the border", 0, b::turn);
        Scene.due(b, 0, "9 99 10 " + order);
        Scene.due(b, 1, "0 99 10 " + order);
    }

    private static void charge() {
        Doc.says(TERMS, "For c (charge), it moves forward as long as the next cell is in the field and empty, but by "
            + "at most 2 cells;");
        LineBattle b = Scene.battle("0 0 p 9 c", "1 1 p 9 c");
        for (int turn = 1; turn <= 6; turn++) {
            b.turn();
            int column = Math.min(9, 2 * turn);
            Scene.due(b, 0, column + " 9 10 c");
            Scene.due(b, 1, 9 - column + " 9 10 c");
        }
        borders('c');
        LineBattle own = Scene.turns(Scene.battle("0 0 p 9 c"), 1);
        own.setOrder(0, 'h');
        Scene.add(own, "0 0 n 9 c");
        own.turn();
        Check.due("one cell, up to its own line", ".np.......", () -> Scene.lane(own, 0));
        Check.due("no cell, and no fight", 0, own::turn);
        Check.due("behind its own line", ".np.......", () -> Scene.lane(own, 0));
        Doc.says(TERMS, "if an enemy is in the next cell then, it fights with it, and it charges if it has moved in "
            + "this turn.");
        // The enemy is 3, 2, 1 and no empty cells away; by pepper 40: 10, or 16 if it charges, of 99.
        int[] fights = {1, 1, 1, 0};
        int[] left = {89, 83, 83, 99};
        int[] columns = {8, 8, 8, 7};
        for (int gap = 0; gap < 4; gap++) {
            LineBattle c = Scene.turns(Scene.battle("0 0 p 40 a", "1 0 s 99 h"), 8 - gap);
            c.setOrder(0, 'c');
            Check.due("fights over " + gap, fights[gap], c::turn);
            int strength = left[gap];
            int column = columns[gap];
            Check.due("enemy over " + gap, strength, () -> c.strengthOf(1));
            Check.due("column over " + gap, column, () -> c.columnOf(0));
        }
    }

    private static void routed() {
        Doc.says(TERMS, "A routed line moves one cell backward if this cell is in the field and empty;");
        LineBattle b = Scene.rout();
        Check.due("routed", "....n!C!....", () -> Scene.lane(b, 0));
        b.turn();
        Check.due("one cell each", "...n!..C!...", () -> Scene.lane(b, 0));
        Scene.turns(b, 3);
        Check.due("in the first columns", "n........C!", () -> Scene.lane(b, 0));
        b.turn();
        Check.due("no cell behind", "n........C", () -> Scene.lane(b, 0));
        LineBattle corner = Scene.turns(Scene.battle("0 0 c 99 c", "1 0 s 99 h"), 4);
        Scene.due(corner, 1, "9 66 3 !");
        LineBattle first = Scene.turns(Scene.battle("1 1 c 99 c", "0 1 s 99 h"), 4);
        Scene.due(first, 1, "0 66 3 !");
        LineBattle blocked = Scene.turns(Scene.meeting(), 1);
        Scene.add(blocked, "1 0 s 20 a");
        Scene.turns(blocked, 4);
        blocked.setOrder(2, 'h');
        blocked.turn();
        Check.due("its own line behind", "...n!.C!S...", () -> Scene.lane(blocked, 0));
        Doc.says(TERMS, "its morale increases by 1; if its morale is at least 8 then, it stands again, with the "
            + "order h.");
        LineBattle c = Scene.rout();
        String[] nutmeg = {"4 41 4 !", "3 41 5 !", "2 41 6 !", "1 41 7 !", "0 41 8 h", "0 41 9 h"};
        for (String want : nutmeg) {
            Scene.due(c, 0, want);
            c.turn();
        }
        LineBattle at = Scene.turns(Scene.rout(), 4);
        Scene.due(at, 1, "9 36 7 !");
        at.turn();
        Scene.due(at, 1, "9 36 8 h");
        at.turn();
        Scene.due(at, 1, "9 36 9 h");
    }

    private static void jars() {
        Doc.says(TERMS, "Jars. When a line is rallied, a jar of its side is used up, and its morale increases by 6, up "
            + "to 20.");
        LineBattle b = Scene.rout();
        Check.due("rallied", 10, () -> b.rally(0));
        Check.due("jars of 0", 2, () -> b.jarsOf(0));
        Check.due("jars of 1", 3, () -> b.jarsOf(1));
        Check.due("rallied, of side 1", 9, () -> b.rally(1));
        Check.due("jars of 0 still", 2, () -> b.jarsOf(0));
        Check.due("jars of 1 then", 2, () -> b.jarsOf(1));
        // 20 is never reached: a routed line has at most 7.
        LineBattle most = Scene.turns(Scene.rout(), 3);
        Scene.due(most, 0, "1 41 7 !");
        Check.due("7 and 6", 13, () -> most.rally(0));
        Doc.says(TERMS, "If its morale is at least 8 then, it stands again, with the order h.");
        LineBattle one = Scene.hitInTurnFive(90);
        Check.due("1 and 6", 7, () -> one.rally(1));
        Scene.due(one, 1, "6 69 7 !");
        Check.due("rallied again", 13, () -> one.rally(1));
        Scene.due(one, 1, "6 69 13 h");
        LineBattle two = Scene.hitInTurnFive(87);
        Check.due("2 and 6", 8, () -> two.rally(1));
        Scene.due(two, 1, "6 70 8 h");
        two.turn();
        Scene.due(two, 1, "6 70 9 h");
    }

    private static void clarified() {
        Doc.says(TERMS, "Clarifications. A routed enemy is fought like one that stands, and it counters, too.");
        LineBattle b = Scene.turns(Scene.hitInTurnFive(99), 4);
        Scene.due(b, 0, "8 88 7 a");
        Scene.due(b, 1, "9 66 5 !");
        Check.due("a fight", 1, b::turn);
        // 29 and 9 of 5, and one more; the counter is 37 / 6 = 6 and 2.
        Scene.due(b, 0, "8 82 5 a");
        Scene.due(b, 1, "9 37 1 !");
        Doc.says(TERMS, "The morale of a line that has fallen stays what it was after the fight in which it fell.");
        LineBattle fallen = Scene.fall();
        Scene.due(fallen, 1, "fallen 0 2");
        Scene.turns(fallen, 3);
        Scene.due(fallen, 1, "fallen 0 2");
        LineBattle attacker = Scene.attackerFalls();
        Scene.due(attacker, 0, "fallen 0 2");
        Scene.turns(attacker, 8);
        Scene.due(attacker, 0, "fallen 0 2");
        Check.thrown("it can't be rallied", Scene.STATE, () -> attacker.rally(0));
        Scene.due(attacker, 0, "fallen 0 2");
        Doc.says(TERMS, "Lines of its own side do not hide an enemy from a line.");
        LineBattle queue = Scene.turns(Scene.meeting(), 1);
        Scene.add(queue, "0 0 s 9 h");
        Scene.add(queue, "1 0 s 9 h");
        Check.due("side 0", 1, () -> queue.enemyAhead(2));
        Check.due("side 0 in the other way", 1, () -> queue.enemyByDistances(2));
        Check.due("side 1", 0, () -> queue.enemyAhead(3));
        Check.due("side 1 in the other way", 0, () -> queue.enemyByDistances(3));
    }
}
