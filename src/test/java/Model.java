import java.util.ArrayDeque;
import java.util.ArrayList;
import java.util.Comparator;
import java.util.Deque;
import java.util.List;
import java.util.NoSuchElementException;
import java.util.regex.Matcher;
import java.util.regex.Pattern;

/** The document once more, in another way: whole copies of the state, no cells, and the grammar as a pattern. */
final class Model {
    private static final String N = " ([0-9]{1,2})";
    private static final String D = " ([0-9])";
    private static final String[] COMMANDS = {"line" + D + D + " ([pncs])" + N, "order" + N + " ([hac])", "rally" + N,
        "turn"};
    private static final String ANY = "(?:" + String.join("|", COMMANDS) + ")";
    private static final Pattern TEXT = Pattern.compile(ANY + "(?:;" + ANY + ")*");

    private static final class Unit {
        final int id;
        final int side;
        final int lane;
        final char kind;
        int column;
        int strength;
        int morale = 10;
        char order = 'h';
        boolean routed;
        int routs;

        Unit(int id, int side, int lane, char kind, int strength) {
            this.id = id;
            this.side = side;
            this.lane = lane;
            this.kind = kind;
            this.strength = strength;
            column = side * 9;
        }

        Unit copy() {
            Unit u = new Unit(id, side, lane, kind, strength);
            u.column = column;
            u.morale = morale;
            u.order = order;
            u.routed = routed;
            u.routs = routs;
            return u;
        }

        boolean alive() {
            return strength > 0;
        }

        boolean stands() {
            return alive() && !routed;
        }

        int ahead() {
            return column + 1 - 2 * side;
        }

        int attack() {
            switch (kind) {
                case 'p': return strength / 4;
                case 'n': return strength / 5 + 2;
                case 'c': return strength / 3;
                default: return strength / 6 + 1;
            }
        }

        int counter() {
            return strength / new int[] {8, 4, 10, 6}["pncs".indexOf(kind)];
        }

        void hurt(int damage) {
            strength -= Math.min(strength, damage);
            morale -= Math.min(morale, damage / 3);
        }

        void cheer(int by) {
            morale = Math.min(20, morale + by);
            if (routed && morale >= 8) {
                routed = false;
                order = 'h';
            }
        }
    }

    private static final class State {
        final List<Unit> units = new ArrayList<>();
        final int[] jars = {3, 3};
        int turns;
        int fights;

        State copy() {
            State s = new State();
            for (Unit u : units) {
                s.units.add(u.copy());
            }
            s.jars[0] = jars[0];
            s.jars[1] = jars[1];
            s.turns = turns;
            s.fights = fights;
            return s;
        }

        Unit get(int line) {
            if (line < 0 || line >= units.size()) {
                throw new IndexOutOfBoundsException();
            }
            return units.get(line);
        }

        Unit at(int lane, int column) {
            for (Unit u : units) {
                if (u.alive() && u.lane == lane && u.column == column) {
                    return u;
                }
            }
            return null;
        }

        boolean free(int lane, int column) {
            return column >= 0 && column <= 9 && at(lane, column) == null;
        }

        int add(int side, int lane, char kind, int strength) {
            if (side != 0 && side != 1 || lane < 0 || lane > 2 || kind == 0 || "pncs".indexOf(kind) < 0 || strength < 1
                    || strength > 99) {
                throw new IllegalArgumentException();
            }
            if (units.size() == 12) {
                throw new IllegalStateException();
            }
            if (at(lane, side * 9) != null) {
                throw new UnsupportedOperationException();
            }
            units.add(new Unit(units.size(), side, lane, kind, strength));
            return units.size() - 1;
        }

        char order(int line, char order) {
            Unit u = get(line);
            if (order != 'h' && order != 'a' && order != 'c') {
                throw new IllegalArgumentException();
            }
            if (!u.stands()) {
                throw new IllegalStateException();
            }
            char before = u.order;
            u.order = order;
            return before;
        }

        int rally(int line) {
            Unit u = get(line);
            if (!u.alive() || !u.routed) {
                throw new IllegalStateException();
            }
            if (jars[u.side] == 0) {
                throw new UnsupportedOperationException();
            }
            jars[u.side]--;
            u.cheer(6);
            return u.morale;
        }

        int turn() {
            int before = fights;
            for (Unit u : units) {
                if (u.alive() && u.routed) {
                    u.routs++;
                    int back = 2 * u.column - u.ahead();
                    if (free(u.lane, back)) {
                        u.column = back;
                    }
                    u.cheer(1);
                } else if (u.alive() && u.order == 'h') {
                    u.cheer(1);
                } else if (u.alive() && u.order == 'a') {
                    if (free(u.lane, u.ahead())) {
                        u.column = u.ahead();
                    } else {
                        meet(u, 0);
                    }
                } else if (u.alive()) {
                    int from = u.column;
                    while (Math.abs(u.column - from) < 2 && free(u.lane, u.ahead())) {
                        u.column = u.ahead();
                    }
                    meet(u, u.column != from && u.kind == 'p' ? 6 : 0);
                }
            }
            turns++;
            return fights - before;
        }

        private void meet(Unit u, int bonus) {
            Unit enemy = at(u.lane, u.ahead());
            if (enemy == null || enemy.side == u.side) {
                return;
            }
            fights++;
            enemy.hurt(u.attack() + bonus + 2 * support(u));
            if (enemy.alive()) {
                u.hurt(enemy.counter());
            }
            enemy.routed |= enemy.morale < 5;
            u.routed |= u.morale < 5;
        }

        int support(Unit u) {
            return (int) units.stream().filter(v -> v.stands() && v.side == u.side && v.column == u.column
                && (v.lane == u.lane - 1 || v.lane == u.lane + 1)).count();
        }

        int enemy(Unit u) {
            return units.stream().filter(v -> v.alive() && v.side != u.side && v.lane == u.lane)
                .filter(v -> u.side == 0 ? v.column > u.column : v.column < u.column)
                .min(Comparator.comparingInt(v -> Math.abs(v.column - u.column))).orElseThrow().id;
        }

        int sum(int side) {
            return units.stream().filter(u -> u.side == side).mapToInt(u -> u.strength).sum();
        }
    }

    private State now = new State();
    private State saved;
    private final Deque<State> past = new ArrayDeque<>();
    private String buffer = "";
    private String written = "";
    private int error = -1;
    private int failed = -1;

    private void done(State before) {
        past.push(before);
        if (past.size() > 8) {
            past.removeLast();
        }
    }

    private static int index(boolean right, int value) {
        if (!right) {
            throw new IndexOutOfBoundsException();
        }
        return value;
    }

    private static void argument(boolean right) {
        if (!right) {
            throw new IllegalArgumentException();
        }
    }

    private static int element(boolean there, int value) {
        if (!there) {
            throw new NoSuchElementException();
        }
        return value;
    }

    private Unit alive(int line) {
        Unit u = now.get(line);
        element(u.alive(), 0);
        return u;
    }

    /** Answers a call, given by its name and up to four numbers. */
    Object call(String name, int a, int b, int c, int d) {
        State before = now.copy();
        Object answer;
        switch (name) {
            case "addLine": answer = now.add(a, b, (char) c, d); break;
            case "setOrder": answer = now.order(a, (char) b); break;
            case "rally": answer = now.rally(a); break;
            case "turn": answer = now.turn(); break;
            case "execute": answer = execute(); break;
            default: return query(name, a, b);
        }
        done(before);
        return answer;
    }

    private Object query(String name, int a, int b) {
        switch (name) {
            case "lineCount": return now.units.size();
            case "sideOf": return now.get(a).side;
            case "laneOf": return alive(a).lane;
            case "columnOf": return alive(a).column;
            case "kindOf": return now.get(a).kind;
            case "strengthOf": return now.get(a).strength;
            case "moraleOf": return now.get(a).morale;
            case "orderOf":
                if (!now.get(a).stands()) {
                    throw new IllegalStateException();
                }
                return now.get(a).order;
            case "isStanding": return now.get(a).stands();
            case "isRouted": return now.get(a).alive() && now.get(a).routed;
            case "routedTurns": return now.get(a).routs;
            case "lineIn":
                index(a >= 0 && a < 3 && b >= 0 && b < 10, 0);
                element(now.at(a, b) != null, 0);
                return now.at(a, b).id;
            case "attackOf": return now.get(a).attack();
            case "counterOf": return now.get(a).counter();
            case "supportOf": case "supportByLines": return now.support(alive(a));
            case "enemyAhead": case "enemyByDistances": return now.enemy(alive(a));
            case "fightCount": return now.fights;
            case "turnsUntilFight": return turnsUntilFight();
            default: return sideQuery(name, a, b);
        }
    }

    private Object sideQuery(String name, int a, int b) {
        switch (name) {
            case "jarsOf": argument(a == 0 || a == 1); return now.jars[a];
            case "strengthOfSide": case "strengthByCells": argument(a == 0 || a == 1); return now.sum(a);
            case "fallenOf":
                argument(a == 0 || a == 1);
                return (int) now.units.stream().filter(u -> u.side == a && !u.alive()).count();
            case "frontOf":
                argument((a == 0 || a == 1) && b >= 0 && b < 3);
                return now.units.stream().filter(u -> u.side == a && u.alive() && u.lane == b).map(u -> u.column)
                    .max(a == 0 ? Comparator.naturalOrder() : Comparator.reverseOrder()).orElseThrow();
            case "leader":
                return element(now.sum(0) != now.sum(1), now.sum(0) > now.sum(1) ? 0 : 1);
            case "lineByStrength":
                element(a >= 0 && a < now.units.size(), 0);
                List<Unit> ranks = new ArrayList<>(now.units);
                ranks.sort(Comparator.comparingInt(u -> -u.strength));
                return ranks.get(a).id;
            case "turnCount": return now.turns;
            case "writeLane": index(a >= 0 && a < 3, 0); return write(a);
            case "writtenAt": return written.charAt(index(a >= 0 && a < written.length(), a));
            case "meanMorale":
                List<Unit> alive = new ArrayList<>(now.units);
                alive.removeIf(u -> !u.alive());
                if (alive.isEmpty()) {
                    throw new ArithmeticException();
                }
                return (double) alive.stream().mapToInt(u -> u.morale).sum() / alive.size();
            case "standingShare":
                if (now.units.isEmpty()) {
                    throw new ArithmeticException();
                }
                return (float) now.units.stream().filter(Unit::stands).count() / now.units.size();
            case "isConsistent": return true;
            default: return textQuery(name, a);
        }
    }

    private Object textQuery(String name, int a) {
        switch (name) {
            case "type":
                argument(a >= 32 && a <= 126);
                if (buffer.length() == 60) {
                    throw new IllegalStateException();
                }
                buffer += (char) a;
                return buffer.length();
            case "errorPosition": return element(error >= 0, error);
            case "failedCommand": return element(failed >= 0, failed);
            case "undo":
                if (past.isEmpty()) {
                    throw new IllegalStateException();
                }
                now = past.pop();
                return past.size();
            case "save": saved = now.copy(); return now.units.size();
            case "restore":
                if (saved == null) {
                    throw new IllegalStateException();
                }
                now = saved.copy();
                past.clear();
                return now.units.size();
            default: throw new AssertionError(name);
        }
    }

    private int turnsUntilFight() {
        State trial = now.copy();
        for (int i = 1; i <= 20; i++) {
            if (trial.turn() > 0) {
                return i;
            }
        }
        throw new NoSuchElementException();
    }

    private int write(int lane) {
        StringBuilder sb = new StringBuilder();
        for (int column = 0; column < 10; column++) {
            Unit u = now.at(lane, column);
            String kind = u == null ? "." : String.valueOf(u.kind);
            sb.append(u != null && u.side == 1 ? kind.toUpperCase() : kind).append(u != null && u.routed ? "!" : "");
        }
        written = sb.toString();
        return written.length();
    }

    /** Whether the text is the beginning of a valid one: then the pattern matches it, or ran into its end. */
    private static boolean canContinue(String text) {
        Matcher m = TEXT.matcher(text);
        return m.matches() || m.hitEnd();
    }

    private int execute() {
        String text = buffer;
        buffer = "";
        if (!TEXT.matcher(text).matches()) {
            error = 0;
            while (error < text.length() && canContinue(text.substring(0, error + 1))) {
                error++;
            }
            throw new IllegalArgumentException();
        }
        State before = now.copy();
        String[] commands = text.split(";");
        for (int i = 0; i < commands.length; i++) {
            try {
                perform(commands[i].split(" "));
            } catch (IndexOutOfBoundsException | IllegalArgumentException | IllegalStateException
                    | UnsupportedOperationException e) {
                now = before;
                failed = i;
                throw new IllegalStateException();
            }
        }
        return commands.length;
    }

    private void perform(String[] words) {
        switch (words[0]) {
            case "line":
                now.add(Integer.parseInt(words[1]), Integer.parseInt(words[2]), words[3].charAt(0),
                    Integer.parseInt(words[4]));
                break;
            case "order": now.order(Integer.parseInt(words[1]), words[2].charAt(0)); break;
            case "rally": now.rally(Integer.parseInt(words[1])); break;
            default: now.turn();
        }
    }
}
