import java.util.Random;

/** Random runs of the 512 calls of an object (from fixed seeds), each answered by the class and by the model. */
public final class RandomTest {
    private static final int RUNS = 6000;
    private static final int CALLS = 512;
    private static final int CALLS_FOR_EVERYTHING = 398;
    private static final String[] NO_PARAMETER = {"lineCount", "fightCount", "turnsUntilFight", "leader", "turnCount",
        "meanMorale", "standingShare", "isConsistent", "errorPosition", "failedCommand"};
    private static final String[] OF_LINE = {"sideOf", "laneOf", "columnOf", "kindOf", "strengthOf", "moraleOf",
        "orderOf", "isStanding", "isRouted", "routedTurns", "attackOf", "counterOf", "supportOf", "supportByLines",
        "enemyAhead", "enemyByDistances"};
    private static final String[] OF_SIDE = {"jarsOf", "strengthOfSide", "strengthByCells", "fallenOf"};
    private static final String WORDS = "lineordrayu 0123456789;hacpns";

    private final Random random;
    private final int run;
    private final LineBattle battle = new LineBattle();
    private final Model model = new Model();
    private int calls = 0;

    private RandomTest(int run) {
        this.run = run;
        random = new Random(run);
    }

    public static void main(String[] args) {
        for (int run = 0; run < RUNS; run++) {
            new RandomTest(run).play();
        }
        Check.finish("RandomTest");
    }

    private void play() {
        boolean asksEverything = run % 2 == 0;
        while (calls < (asksEverything ? CALLS - CALLS_FOR_EVERYTHING : CALLS)) {
            change();
            query();
        }
        everything();
    }

    private int below(int bound) {
        return random.nextInt(bound);
    }

    private String one(String[] names) {
        return names[below(names.length)];
    }

    private int line() {
        return below(30) == 0 ? below(20) - 4 : below(12);
    }

    private int sign(String signs) {
        return below(20) == 0 ? below(130) : signs.charAt(below(signs.length()));
    }

    private int strength() {
        return below(20) == 0 ? below(104) - 2 : 1 + below(below(2) == 0 ? 99 : 20);
    }

    private void change() {
        int dice = below(100);
        if (dice < 14) {
            both("addLine", below(25) == 0 ? 2 : below(2), below(25) == 0 ? 3 : below(3), sign("pncs"), strength());
        } else if (dice < 42) {
            both("setOrder", line(), sign("haacc"), 0, 0);
        } else if (dice < 48) {
            both("rally", line(), 0, 0, 0);
        } else if (dice < 82) {
            both("turn", 0, 0, 0, 0);
        } else if (dice < 86) {
            both("undo", 0, 0, 0, 0);
        } else if (dice < 88) {
            both(below(3) == 0 ? "save" : "restore", 0, 0, 0, 0);
        } else {
            text();
        }
    }

    private void text() {
        StringBuilder sb = new StringBuilder();
        for (int commands = 1 + below(5); commands > 0; commands--) {
            sb.append(command()).append(commands > 1 ? ";" : "");
        }
        if (below(3) == 0 && sb.length() > 0) {
            int place = below(sb.length());
            switch (below(3)) {
                case 0: sb.deleteCharAt(place); break;
                case 1: sb.setLength(place); break;
                default: sb.setCharAt(place, WORDS.charAt(below(WORDS.length())));
            }
        }
        for (int i = 0; i < sb.length(); i++) {
            both("type", sb.charAt(i), 0, 0, 0);
        }
        if (below(10) > 0) {
            both("execute", 0, 0, 0, 0);
        }
    }

    private String command() {
        switch (below(5)) {
            case 0: return "line " + below(2) + " " + below(3) + " " + "pncs".charAt(below(4)) + " " + below(100);
            case 1: return "rally " + below(14);
            case 2: return "order " + (below(4) == 0 ? "0" : "") + below(8) + " " + "hac".charAt(below(3));
            default: return "turn";
        }
    }

    private void query() {
        switch (below(7)) {
            case 0: both(one(NO_PARAMETER), 0, 0, 0, 0); break;
            case 1: both("lineIn", below(5) - 1, below(12) - 1, 0, 0); break;
            case 2: both(one(OF_SIDE), below(4) - 1, 0, 0, 0); break;
            case 3: both("frontOf", below(30) == 0 ? 2 : below(2), below(30) == 0 ? 3 : below(3), 0, 0); break;
            case 4: both("lineByStrength", below(14) - 1, 0, 0, 0); break;
            case 5: both(below(3) == 0 ? "writeLane" : "writtenAt", below(16) - 1, 0, 0, 0); break;
            default: both(one(OF_LINE), line(), 0, 0, 0);
        }
    }

    private void everything() {
        for (String name : NO_PARAMETER) {
            both(name, 0, 0, 0, 0);
        }
        for (int i = -1; i < 13; i++) {
            for (String name : OF_LINE) {
                both(name, i, 0, 0, 0);
            }
            both("lineByStrength", i, 0, 0, 0);
            for (int lane = 0; lane < 3; lane++) {
                both("lineIn", lane, i, 0, 0);
            }
        }
        for (int i = 0; i < 6; i++) {
            both(OF_SIDE[i % 4], i & 1, 0, 0, 0);
            both("frontOf", i & 1, i % 3, 0, 0);
            both("writeLane", i % 3, 0, 0, 0);
            for (int at = 0; at < 15; at++) {
                both("writtenAt", at, 0, 0, 0);
            }
        }
    }

    private void both(String name, int a, int b, int c, int d) {
        if (calls == CALLS) {
            return;
        }
        calls++;
        String want = Check.outcome(() -> model.call(name, a, b, c, d));
        String what = "run " + run + " " + name + " " + a + " " + b + " " + c + " " + d;
        Check.due(what, want, () -> answer(name, a, b, c, d));
    }

    private Object answer(String name, int a, int b, int c, int d) {
        switch (name) {
            case "addLine": return battle.addLine(a, b, (char) c, d);
            case "setOrder": return battle.setOrder(a, (char) b);
            case "rally": return battle.rally(a);
            case "turn": return battle.turn();
            case "type": return battle.type((char) a);
            case "execute": return battle.execute();
            case "undo": return battle.undo();
            case "save": return battle.save();
            case "restore": return battle.restore();
            case "lineIn": return battle.lineIn(a, b);
            case "jarsOf": return battle.jarsOf(a);
            case "strengthOfSide": return battle.strengthOfSide(a);
            case "strengthByCells": return battle.strengthByCells(a);
            case "fallenOf": return battle.fallenOf(a);
            case "frontOf": return battle.frontOf(a, b);
            case "lineByStrength": return battle.lineByStrength(a);
            case "writeLane": return battle.writeLane(a);
            case "writtenAt": return battle.writtenAt(a);
            default: return lineAnswer(name, a);
        }
    }

    private Object lineAnswer(String name, int line) {
        switch (name) {
            case "sideOf": return battle.sideOf(line);
            case "laneOf": return battle.laneOf(line);
            case "columnOf": return battle.columnOf(line);
            case "kindOf": return battle.kindOf(line);
            case "strengthOf": return battle.strengthOf(line);
            case "moraleOf": return battle.moraleOf(line);
            case "orderOf": return battle.orderOf(line);
            case "isStanding": return battle.isStanding(line);
            case "isRouted": return battle.isRouted(line);
            case "routedTurns": return battle.routedTurns(line);
            case "attackOf": return battle.attackOf(line);
            case "counterOf": return battle.counterOf(line);
            case "supportOf": return battle.supportOf(line);
            case "supportByLines": return battle.supportByLines(line);
            case "enemyAhead": return battle.enemyAhead(line);
            case "enemyByDistances": return battle.enemyByDistances(line);
            default: return plainAnswer(name);
        }
    }

    private Object plainAnswer(String name) {
        switch (name) {
            case "lineCount": return battle.lineCount();
            case "fightCount": return battle.fightCount();
            case "turnsUntilFight": return battle.turnsUntilFight();
            case "leader": return battle.leader();
            case "turnCount": return battle.turnCount();
            case "meanMorale": return battle.meanMorale();
            case "standingShare": return battle.standingShare();
            case "isConsistent": return battle.isConsistent();
            case "errorPosition": return battle.errorPosition();
            case "failedCommand": return battle.failedCommand();
            default: throw new AssertionError(name);
        }
    }
}
