import java.util.NoSuchElementException;
import java.util.function.Function;
import java.util.function.Supplier;

/** Battles to begin with, and shorthands, that the tests share. */
final class Scene {
    static final Class<IndexOutOfBoundsException> BOUNDS = IndexOutOfBoundsException.class;
    static final Class<IllegalArgumentException> ARGUMENT = IllegalArgumentException.class;
    static final Class<IllegalStateException> STATE = IllegalStateException.class;
    static final Class<UnsupportedOperationException> UNSUPPORTED = UnsupportedOperationException.class;
    static final Class<NoSuchElementException> NO_ELEMENT = NoSuchElementException.class;
    static final Class<ArithmeticException> ARITHMETIC = ArithmeticException.class;

    private Scene() {
    }

    /** A battle of lines told as "side lane kind strength order". */
    static LineBattle battle(String... lines) {
        LineBattle b = new LineBattle();
        for (String line : lines) {
            add(b, line);
        }
        return b;
    }

    static int add(LineBattle b, String line) {
        String[] p = line.split(" ");
        int number = b.addLine(Integer.parseInt(p[0]), Integer.parseInt(p[1]), p[2].charAt(0), Integer.parseInt(p[3]));
        if (p[4].charAt(0) != 'h') {
            b.setOrder(number, p[4].charAt(0));
        }
        return number;
    }

    static LineBattle turns(LineBattle b, int turns) {
        for (int i = 0; i < turns; i++) {
            b.turn();
        }
        return b;
    }

    /** Nutmeg 60 and clove 60, both advancing in lane 0; in turn 5 they meet at columns 4 and 5 and rout each other. */
    static LineBattle meeting() {
        return battle("0 0 n 60 a", "1 0 c 60 a");
    }

    static LineBattle rout() {
        return turns(meeting(), 5);
    }

    /** A strong clove of side 0 has killed a line of side 1; line 0 is at column 8, line 1 has fallen. */
    static LineBattle fall() {
        return turns(battle("0 1 c 99 c", "1 1 s 5 h"), 4);
    }

    /** A weak pepper of side 0 has fallen by the counter of its enemy, a nutmeg of side 1 that holds. */
    static LineBattle attackerFalls() {
        return turns(battle("0 1 p 3 a", "1 1 n 99 h"), 9);
    }

    /** Clove of this strength has hit salt 99 of morale 10 in turn 5; routed, the salt has gone back by a cell. */
    static LineBattle hitInTurnFive(int strength) {
        return turns(battle("0 0 c " + strength + " a", "1 0 s 99 a"), 5);
    }

    /** Side 1 has used up its three jars: line 1 stands with morale 13, and line 3 is routed with morale 7. */
    static LineBattle noJar() {
        LineBattle b = turns(battle("0 0 c 99 a", "1 0 s 60 a", "0 2 c 99 a", "1 2 s 60 a"), 5);
        b.rally(1);
        b.rally(1);
        b.rally(3);
        return b;
    }

    /** Twelve salts of side 0, four in each lane, in the columns 4 to 1. */
    static LineBattle twelve() {
        LineBattle b = new LineBattle();
        for (int i = 0; i < 12; i++) {
            add(b, "0 " + i % 3 + " s " + (i + 1) + " a");
            if (i % 3 == 2) {
                b.turn();
            }
        }
        return b;
    }

    /**
     * Lines 0 and 4 advance, 1 is routed, 2 charges, 3 has fallen; side 0 has two jars; there are a snapshot,
     * one modification to undo, an error position, a failed command, a written text and a text in the buffer.
     */
    static LineBattle rich() {
        LineBattle b = turns(battle("0 0 n 60 a", "1 0 c 60 a", "0 1 c 99 c", "1 1 s 5 h", "0 2 p 20 h"), 5);
        b.rally(0);
        b.setOrder(0, 'a');
        turns(b, 2);
        b.save();
        b.turn();
        b.restore();
        b.setOrder(4, 'a');
        b.writeLane(0);
        Check.outcome(() -> run(b, "turn;x"));
        Check.outcome(() -> run(b, "turn;rally 4"));
        type(b, "tur");
        return b;
    }

    /** The same, but just restored, so that nothing can be undone. */
    static LineBattle restored() {
        LineBattle b = rich();
        b.restore();
        return b;
    }

    static int type(LineBattle b, String text) {
        int length = 0;
        for (int i = 0; i < text.length(); i++) {
            length = b.type(text.charAt(i));
        }
        return length;
    }

    static int run(LineBattle b, String text) {
        type(b, text);
        return b.execute();
    }

    static String lane(LineBattle b, int lane) {
        StringBuilder sb = new StringBuilder();
        int length = b.writeLane(lane);
        for (int i = 0; i < length; i++) {
            sb.append(b.writtenAt(i));
        }
        return sb.toString();
    }

    /** A line as "column strength morale order", with "!" for a routed one's order, or "fallen strength morale". */
    static String shown(LineBattle b, int line) {
        String tail = " " + b.strengthOf(line) + " " + b.moraleOf(line);
        if (b.isStanding(line)) {
            return b.columnOf(line) + tail + " " + b.orderOf(line);
        }
        return b.isRouted(line) ? b.columnOf(line) + tail + " !" : "fallen" + tail;
    }

    static void due(LineBattle b, int line, String want) {
        Check.due("line " + line, want, () -> shown(b, line));
    }

    static String written(LineBattle b) {
        StringBuilder sb = new StringBuilder();
        for (int i = 0; i < 12 && !Check.outcome(() -> b.writtenAt(sb.length())).startsWith("throws"); i++) {
            sb.append(b.writtenAt(i));
        }
        return sb.toString();
    }

    /** What is undone, saved and restored, as one text. */
    static String state(LineBattle b) {
        StringBuilder sb = new StringBuilder();
        sb.append("turn ").append(b.turnCount()).append(" fights ").append(b.fightCount());
        sb.append(" jars ").append(b.jarsOf(0)).append(b.jarsOf(1));
        for (int i = 0; i < b.lineCount(); i++) {
            sb.append(" / ").append(b.sideOf(i)).append(b.kindOf(i)).append(' ').append(shown(b, i));
            sb.append(" ").append(b.routedTurns(i));
        }
        return sb.toString();
    }

    /** All that can be told of a battle, which is spoilt by it: what can be undone and restored, too. */
    static String whole(LineBattle b) {
        StringBuilder sb = new StringBuilder(state(b)).append(" written ").append(written(b));
        sb.append(" error ").append(Check.outcome(b::errorPosition));
        sb.append(" failed ").append(Check.outcome(b::failedCommand));
        sb.append(" typed ").append(Check.outcome(() -> b.type('n'))).append(" undo");
        for (int i = 0; i < 9; i++) {
            sb.append(' ').append(Check.outcome(b::undo));
        }
        sb.append(" then ").append(state(b)).append(" restored ").append(Check.outcome(b::restore));
        return sb.append(" then ").append(state(b)).append(" executed ").append(Check.outcome(b::execute)).toString();
    }

    /** The call throws, and leaves all as it was. */
    static void refused(String what, Class<? extends RuntimeException> want, Supplier<LineBattle> scene,
            Function<LineBattle, Object> call) {
        LineBattle b = scene.get();
        Check.thrown(what, want, () -> call.apply(b));
        Check.due(what + ": unchanged", whole(scene.get()), () -> whole(b));
    }
}
