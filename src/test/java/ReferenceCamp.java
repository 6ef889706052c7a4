import java.util.ArrayList;
import java.util.Arrays;
import java.util.Comparator;
import java.util.HashMap;
import java.util.HashSet;
import java.util.List;
import java.util.Map;
import java.util.Set;

/**
 * The document once more, written with the Java library and without a look at speed, for ModelTest.
 * Every call comes as a name and its numbers; an answer is a text, that of a refused call the exception's name.
 */
final class ReferenceCamp {
    private static final class Cell {
        int x;
        int y;
        int height;
        int firmness = 5;
        boolean ditch;
    }

    private static final class Peg {
        Cell cell;
        boolean in = true;
    }

    private static final class Tent {
        Cell cell;
        int size;
        boolean stands = true;
        boolean wet;
        Set<Peg> ropes = new HashSet<>();
    }

    private final Cell[][] cells = new Cell[10][10];
    private final List<Peg> pegs = new ArrayList<>();
    private final List<Tent> tents = new ArrayList<>();
    private final int[][] table = new int[7][3];
    private int night;
    private int rounds;

    ReferenceCamp() {
        for (int y = 0; y < 10; y++) {
            for (int x = 0; x < 10; x++) {
                cells[y][x] = new Cell();
                cells[y][x].x = x;
                cells[y][x].y = y;
                cells[y][x].height = 9 - y;
            }
        }
    }

    private ReferenceCamp copy() {
        ReferenceCamp copy = new ReferenceCamp();
        for (int y = 0; y < 10; y++) {
            for (int x = 0; x < 10; x++) {
                copy.cells[y][x].height = cells[y][x].height;
                copy.cells[y][x].firmness = cells[y][x].firmness;
                copy.cells[y][x].ditch = cells[y][x].ditch;
            }
        }
        for (Peg peg : pegs) {
            Peg other = new Peg();
            other.cell = copy.cells[peg.cell.y][peg.cell.x];
            other.in = peg.in;
            copy.pegs.add(other);
        }
        for (Tent tent : tents) {
            Tent other = new Tent();
            other.cell = copy.cells[tent.cell.y][tent.cell.x];
            other.size = tent.size;
            other.stands = tent.stands;
            other.wet = tent.wet;
            for (Peg peg : tent.ropes) {
                other.ropes.add(copy.pegs.get(pegs.indexOf(peg)));
            }
            copy.tents.add(other);
        }
        for (int row = 0; row < 7; row++) {
            copy.table[row] = table[row].clone();
        }
        copy.night = night;
        return copy;
    }

    String answer(String call, int[] a) {
        try {
            return String.valueOf(result(call, a));
        } catch (IndexOutOfBoundsException | IllegalArgumentException | IllegalStateException e) {
            return e.getClass().getSimpleName();
        }
    }

    private Object result(String call, int[] a) {
        switch (call) {
            case "setGround": return setGround(cell(a[0], a[1]), a[2], a[3]);
            case "ditch": return cell(a[0], a[1]).ditch = !cell(a[0], a[1]).ditch;
            case "setNight": return setNight(a[0], a[1], a[2], a[3]);
            case "drive": return drive(cell(a[0], a[1]));
            case "again": return again(peg(a[0]));
            case "pitch": return pitch(cell(a[0], a[1]), a[2]);
            case "raise": return raise(tent(a[0]));
            case "tie": return tie(tent(a[0]), peg(a[1]));
            case "ground": return ground(cell(a[0], a[1])).get(index(a[2], 5));
            case "peg": return told(peg(a[0])).get(index(a[1], 5));
            case "tent": return told(tent(a[0])).get(index(a[1], 7));
            case "count": return counts().get(index(a[0], 8));
            case "holds": return holds(tent(a[0]), a[1], a[2]);
            case "storm": return storm(a[0], a[1], a[2]);
            case "bears": return bears(a[0]);
            case "flood": return flood(a[0], a[1], a[2]);
            case "advise": return advise(tent(a[0]), a[1]);
            case "pass": return pass(a[0]);
            case "foresee": return foresee(a[0], a[1]);
            case "mean": return Arrays.stream(cells).flatMap(Arrays::stream).mapToInt(c -> c.firmness).sum() / 100.0;
            case "digest": return digest();
            default: throw new AssertionError(call);
        }
    }

    private static int index(int number, int count) {
        if (number < 0 || number >= count) {
            throw new IndexOutOfBoundsException();
        }
        return number;
    }

    private static void argument(int number, int least, int most) {
        if (number < least || number > most) {
            throw new IllegalArgumentException();
        }
    }

    private static void state(boolean good) {
        if (!good) {
            throw new IllegalStateException();
        }
    }

    private Cell cell(int x, int y) {
        return cells[index(y, 10)][index(x, 10)];
    }

    private Peg peg(int number) {
        return pegs.get(index(number, pegs.size()));
    }

    private Tent tent(int number) {
        return tents.get(index(number, tents.size()));
    }

    private int setGround(Cell cell, int height, int firmness) {
        argument(height, 0, 30);
        argument(firmness, 1, 9);
        int before = cell.height * 10 + cell.firmness;
        cell.height = height;
        cell.firmness = firmness;
        return before;
    }

    private int setNight(int row, int force, int direction, int rain) {
        index(row, 7);
        argument(force, 0, 9);
        argument(direction, 0, 3);
        argument(rain, 0, 9);
        int before = weather(row);
        table[row] = new int[] {force, direction, rain};
        return before;
    }

    private int weather(int row) {
        return Integer.parseInt("" + table[row][0] + table[row][1] + table[row][2]);
    }

    private int drive(Cell cell) {
        state(pegs.size() < 16 && pegs.stream().noneMatch(p -> p.cell == cell));
        Peg peg = new Peg();
        peg.cell = cell;
        pegs.add(peg);
        return pegs.size() - 1;
    }

    private int again(Peg peg) {
        state(!peg.in);
        peg.in = true;
        return 4 * peg.cell.firmness;
    }

    private int pitch(Cell cell, int size) {
        argument(size, 1, 9);
        state(tents.size() < 8 && tents.stream().noneMatch(t -> t.cell == cell));
        Tent tent = new Tent();
        tent.cell = cell;
        tent.size = size;
        tents.add(tent);
        return tents.size() - 1;
    }

    private long raise(Tent tent) {
        state(!tent.stands);
        tent.stands = true;
        tent.wet = false;
        return tent.ropes.stream().filter(p -> p.in).count();
    }

    private int tie(Tent tent, Peg peg) {
        state(tent.ropes.contains(peg) || tent.ropes.size() < 6);
        if (!tent.ropes.remove(peg)) {
            tent.ropes.add(peg);
        }
        return tent.ropes.size();
    }

    private List<Long> ground(Cell cell) {
        long peg = -1;
        long tent = -1;
        for (Peg one : pegs) {
            peg = one.cell == cell ? pegs.indexOf(one) : peg;
        }
        for (Tent one : tents) {
            tent = one.cell == cell ? tents.indexOf(one) : tent;
        }
        return List.of((long) cell.height, (long) cell.firmness, cell.ditch ? 1L : 0L, peg, tent);
    }

    private List<Long> told(Peg peg) {
        long ropes = tents.stream().filter(t -> t.ropes.contains(peg)).count();
        long hold = peg.in ? 4L * peg.cell.firmness : 0L;
        return List.of((long) peg.cell.x, (long) peg.cell.y, peg.in ? 1L : 0L, hold, ropes);
    }

    private List<Long> told(Tent tent) {
        long in = tent.ropes.stream().filter(p -> p.in).count();
        return List.of((long) tent.cell.x, (long) tent.cell.y, (long) tent.size,
                tent.stands ? 1L : 0L, tent.wet ? 1L : 0L, (long) tent.ropes.size(), in);
    }

    private List<Long> counts() {
        long ditches = Arrays.stream(cells).flatMap(Arrays::stream).filter(c -> c.ditch).count();
        return List.of((long) night, (long) pegs.size(), pegs.stream().filter(p -> p.in).count(),
                (long) tents.size(), standing(), dry(),
                tents.stream().mapToLong(t -> t.ropes.size()).sum(), ditches);
    }

    private long standing() {
        return tents.stream().filter(t -> t.stands).count();
    }

    private long dry() {
        return tents.stream().filter(t -> !t.wet).count();
    }

    private static boolean holdsBy(Tent tent, Peg peg, int direction) {
        int[] nearer = {
            tent.cell.y - peg.cell.y, peg.cell.x - tent.cell.x, peg.cell.y - tent.cell.y, tent.cell.x - peg.cell.x
        };
        return peg.in && nearer[direction] > 0;
    }

    private static long holding(Tent tent, int direction) {
        return tent.ropes.stream().filter(p -> holdsBy(tent, p, direction)).count();
    }

    private long holds(Tent tent, int force, int direction) {
        argument(force, 0, 9);
        argument(direction, 0, 3);
        return holding(tent, direction);
    }

    private void rage(int force, int direction) {
        rounds = 0;
        boolean another = force >= 1;
        while (another) {
            rounds++;
            another = false;
            for (Tent tent : tents) {
                if (tent.stands && holding(tent, direction) == 0) {
                    tent.stands = false;
                    another = true;
                }
            }
            Map<Peg, Long> pulls = new HashMap<>();
            for (Tent tent : tents) {
                for (Peg peg : tent.ropes) {
                    if (tent.stands && holdsBy(tent, peg, direction)) {
                        pulls.merge(peg, tent.size * force / holding(tent, direction), Long::sum);
                    }
                }
            }
            for (Map.Entry<Peg, Long> pull : pulls.entrySet()) {
                if (pull.getValue() > 4 * pull.getKey().cell.firmness) {
                    pull.getKey().in = false;
                    another = true;
                }
            }
        }
    }

    private long storm(int force, int direction, int what) {
        argument(force, 0, 9);
        argument(direction, 0, 3);
        ReferenceCamp behind = copy();
        behind.rage(force, direction);
        long in = behind.pegs.stream().filter(p -> p.in).count();
        return List.of(behind.standing(), in, (long) behind.rounds).get(index(what, 3));
    }

    private int bears(int direction) {
        argument(direction, 0, 3);
        int most = 0;
        for (int force = 0; force <= 9; force++) {
            most = storm(force, direction, 0) == standing() ? force : most;
        }
        return most;
    }

    private Map<Cell, Integer> floods(int rain) {
        argument(rain, 0, 9);
        Map<Cell, Integer> water = new HashMap<>();
        List<Cell> order = new ArrayList<>();
        for (Cell[] row : cells) {
            for (Cell cell : row) {
                order.add(cell);
                water.put(cell, rain);
            }
        }
        order.sort(Comparator.comparingInt((Cell c) -> -c.height).thenComparingInt(c -> 10 * c.y + c.x));
        Map<Cell, Integer> floods = new HashMap<>();
        for (Cell cell : order) {
            floods.put(cell, water.get(cell));
            Cell to = runsTo(cell);
            if (!cell.ditch && to != null) {
                water.merge(to, water.get(cell), Integer::sum);
            }
        }
        return floods;
    }

    private Cell runsTo(Cell cell) {
        List<Cell> neighbours = new ArrayList<>();
        for (int[] step : new int[][] {{0, -1}, {-1, 0}, {1, 0}, {0, 1}}) {
            int x = cell.x + step[0];
            int y = cell.y + step[1];
            if (Math.min(x, y) >= 0 && Math.max(x, y) <= 9) {
                neighbours.add(cells[y][x]);
            }
        }
        Cell lowest = neighbours.stream().min(Comparator.comparingInt(c -> c.height)).get();
        return lowest.height < cell.height ? lowest : null;
    }

    private int flood(int rain, int x, int y) {
        Map<Cell, Integer> floods = floods(rain);
        return floods.get(cell(x, y));
    }

    private int borne(int tent, int direction) {
        int most = 0;
        for (int force = 0; force <= 9; force++) {
            ReferenceCamp behind = copy();
            behind.rage(force, direction);
            most = behind.tents.get(tent).stands ? force : most;
        }
        return most;
    }

    private int advise(Tent tent, int direction) {
        argument(direction, 0, 3);
        if (!tent.stands || tent.ropes.size() == 6) {
            return -1;
        }
        int number = tents.indexOf(tent);
        int best = -1;
        int most = borne(number, direction);
        for (int peg = 0; peg < pegs.size(); peg++) {
            ReferenceCamp tied = copy();
            if (!tent.ropes.contains(pegs.get(peg))) {
                tied.tie(tied.tents.get(number), tied.pegs.get(peg));
                int force = tied.borne(number, direction);
                if (force > most) {
                    best = peg;
                    most = force;
                }
            }
        }
        return best;
    }

    private void sleep() {
        int[] weather = table[night % 7];
        rage(weather[0], weather[1]);
        Map<Cell, Integer> floods = floods(weather[2]);
        for (Tent tent : tents) {
            tent.wet |= floods.get(tent.cell) >= 10 || !tent.stands && weather[2] >= 1;
        }
        for (Map.Entry<Cell, Integer> flood : floods.entrySet()) {
            if (flood.getValue() >= 20) {
                flood.getKey().firmness = Math.max(1, flood.getKey().firmness - 1);
            }
        }
        night++;
    }

    private long pass(int nights) {
        argument(nights, 1, 30);
        long before = standing();
        for (int slept = 0; slept < nights; slept++) {
            sleep();
        }
        return before - standing();
    }

    private long foresee(int nights, int what) {
        argument(nights, 1, 30);
        index(what, 3);
        ReferenceCamp then = copy();
        then.pass(nights);
        return List.of(then.standing(), then.dry(), then.pegs.stream().filter(p -> p.in).count()).get(what);
    }

    private long digest() {
        List<Long> told = new ArrayList<>(counts());
        for (Cell[] row : cells) {
            for (Cell cell : row) {
                told.addAll(ground(cell));
            }
        }
        for (int row = 0; row < 7; row++) {
            told.add((long) weather(row));
        }
        for (Peg peg : pegs) {
            told.addAll(told(peg));
        }
        for (Tent tent : tents) {
            told.addAll(told(tent));
            for (Peg peg : pegs) {
                told.add(tent.ropes.contains(peg) ? 1L : 0L);
            }
        }
        long d = 881;
        for (long x : told) {
            d = d * 31 + x;
        }
        return d;
    }
}
