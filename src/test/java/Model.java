import java.util.ArrayList;
import java.util.Comparator;
import java.util.HashMap;
import java.util.HashSet;
import java.util.LinkedHashSet;
import java.util.List;
import java.util.Map;
import java.util.Set;

/** The document written a second time with the whole Java library, to compare answers with; exceptions are numbers of Desk. */
final class Model {
    private static final String WORD = "[a-z]{1,4}";
    private static final String NAME = WORD + "(\\." + WORD + "){0,2}";

    private record Imported(String pack, World from) { }

    private static final class Box {
        String word;
        Set<String> names = new HashSet<>();
        int used;
    }

    private static final class World {
        int number;
        String word;
        boolean there = true;
        Set<Integer> archives = new LinkedHashSet<>();
        List<Imported> imports = new ArrayList<>();
        World parent;
        String order = "self";
        Map<String, Integer> kept = new HashMap<>();
    }

    private String text = "";
    private final List<Box> boxes = new ArrayList<>();
    private final List<World> worlds = new ArrayList<>();
    private List<Integer> log = new ArrayList<>();

    boolean write(char c) {
        if (text.length() == 30 || c < ' ' || c > '~') {
            return false;
        }
        text += c;
        return true;
    }

    int line() {
        String line = take().trim().replaceAll(" +", " ");
        World last = worlds.isEmpty() ? null : worlds.get(worlds.size() - 1);
        boolean ready = last != null && last.there;
        if (line.isEmpty()) {
            return 0;
        }
        String end = line.substring(line.lastIndexOf(' ') + 1);
        if (line.matches("archive " + WORD)) {
            return boxNumber(end) >= 0 ? Desk.ARGUMENT : boxes.size() == 6 ? Desk.STATE : newBox(end);
        }
        if (line.matches("name " + NAME)) {
            return newName(end);
        }
        if (line.matches("realm " + WORD)) {
            return worldOf(end) != null ? Desk.ARGUMENT : worlds.size() == 8 ? Desk.STATE : newWorld(end);
        }
        if (line.matches("self|first")) {
            return !ready ? Desk.STATE : setOrder(last, line);
        }
        if (line.matches("load " + WORD) && boxNumber(end) >= 0) {
            if (last != null && last.archives.contains(boxNumber(end))) {
                return Desk.ARGUMENT;
            }
            return !ready || last.archives.size() == 4 ? Desk.STATE : load(last, boxNumber(end));
        }
        World named = worldOf(end);
        if (named == null || named == last) {
            return Desk.ARGUMENT;
        }
        if (line.matches("parent " + WORD)) {
            return !ready ? Desk.STATE : setParent(last, named);
        }
        if (line.matches("import " + NAME + " from " + WORD)) {
            return !ready || last.imports.size() == 4 ? Desk.STATE : addImport(last, line.split(" ")[1], named);
        }
        return Desk.ARGUMENT;
    }

    int look(int realm) {
        String name = take();
        if (there(realm) == null || !name.matches(NAME)) {
            return Desk.ARGUMENT;
        }
        log = new ArrayList<>();
        Integer found = looked(there(realm), name, new HashSet<>());
        return found == null ? Desk.NO_ELEMENT : found;
    }

    int many() {
        return log.size();
    }

    int asked(int i) {
        return i < 0 || i >= 20 || i >= log.size() ? -1 : log.get(i);
    }

    int kept(int realm) {
        return there(realm) == null ? -1 : there(realm).kept.size();
    }

    int used(int archive) {
        return archive < 0 || archive >= boxes.size() ? -1 : boxes.get(archive).used;
    }

    boolean drop(int realm) {
        World world = there(realm);
        if (world != null) {
            world.there = false;
        }
        return world != null;
    }

    int realm() {
        World world = worldOf(take());
        return world == null ? -1 : world.number;
    }

    int count(int what) {
        return what == 0 ? boxes.size()
                : what == 1 ? worlds.size()
                : what == 2 ? (int) worlds.stream().filter(w -> w.there).count() : -1;
    }

    private String take() {
        String taken = text;
        text = "";
        return taken;
    }

    private World there(int realm) {
        return worlds.stream().filter(w -> w.there && w.number == realm).findFirst().orElse(null);
    }

    private World worldOf(String word) {
        return worlds.stream().filter(w -> w.there && w.word.equals(word)).findFirst().orElse(null);
    }

    private int boxNumber(String word) {
        return boxes.stream().map(b -> b.word).toList().indexOf(word);
    }

    private int newBox(String word) {
        Box box = new Box();
        box.word = word;
        boxes.add(box);
        return 1;
    }

    private int newName(String name) {
        if (boxes.isEmpty()) {
            return Desk.STATE;
        }
        Set<String> names = boxes.get(boxes.size() - 1).names;
        if (names.contains(name)) {
            return Desk.ARGUMENT;
        }
        if (names.size() == 6) {
            return Desk.STATE;
        }
        names.add(name);
        return 2;
    }

    private int newWorld(String word) {
        World world = new World();
        world.word = word;
        world.number = worlds.size();
        worlds.add(world);
        return 3;
    }

    private static int setOrder(World world, String order) {
        world.order = order;
        return 4;
    }

    private static int load(World world, int archive) {
        world.archives.add(archive);
        return 4;
    }

    private static int setParent(World world, World parent) {
        world.parent = parent;
        return 4;
    }

    private static int addImport(World world, String pack, World from) {
        world.imports.add(new Imported(pack, from));
        return 4;
    }

    private Integer looked(World world, String name, Set<World> open) {
        if (world.kept.containsKey(name)) {
            return world.kept.get(name);
        }
        log.add(world.number);
        open.add(world);
        Integer found = imported(world, name);
        for (String place : world.order.equals("self") ? List.of("self", "parent") : List.of("parent", "self")) {
            if (found == null) {
                found = place.equals("self") ? itself(world, name) : parents(world, name, open);
            }
        }
        open.remove(world);
        if (found != null) {
            world.kept.put(name, found);
        }
        return found;
    }

    private Integer imported(World world, String name) {
        List<Imported> fitting = world.imports.stream()
                .filter(i -> (name + ".").startsWith(i.pack() + "."))
                .sorted(Comparator.comparing((Imported i) -> -i.pack().length()))
                .toList();
        for (Imported one : fitting) {
            if (one.from().there) {
                log.add(one.from().number);
                Integer found = itself(one.from(), name);
                if (found != null) {
                    return found;
                }
            }
        }
        return null;
    }

    private Integer itself(World world, String name) {
        for (int archive : world.archives) {
            if (boxes.get(archive).names.contains(name)) {
                boxes.get(archive).used++;
                return 16 * world.number + archive;
            }
        }
        return null;
    }

    private Integer parents(World world, String name, Set<World> open) {
        World parent = world.parent;
        return parent == null || !parent.there || open.contains(parent) ? null : looked(parent, name, open);
    }
}
