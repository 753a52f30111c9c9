import java.util.ArrayList;
import java.util.NoSuchElementException;

/** Realms in which names of classes are looked for; README.md tells how it is used. */
public final class RealmDesk {
    private static final int MOST_CHARACTERS = 30;
    private static final int MOST_LETTERS = 4;
    private static final int MOST_WORDS = 3;
    private static final int MOST_ARCHIVES = 6;
    private static final int MOST_NAMES = 6;
    private static final int MOST_REALMS = 8;
    private static final int MOST_LOADED = 4;
    private static final int MOST_IMPORTS = 4;
    private static final int MOST_TOLD = 20;

    private static final int READ_NOTHING = 0;
    private static final int READ_ARCHIVE = 1;
    private static final int READ_NAME = 2;
    private static final int READ_REALM = 3;
    private static final int READ_ABOUT_REALM = 4;

    private static final int NONE = -1;
    private static final int REALM_FACTOR = 16;

    private final StringBuilder written;
    private final ArrayList<Archive> archives;
    private final ArrayList<Realm> realms;
    private final int[] toldRealms;
    private int timesAsked;

    public RealmDesk() {
        written = new StringBuilder();
        archives = new ArrayList<>();
        realms = new ArrayList<>();
        toldRealms = new int[MOST_TOLD];
        timesAsked = 0;
    }

    public boolean write(char c) {
        if (c < 32 || c > 126 || written.length() >= MOST_CHARACTERS) {
            return false;
        }
        written.append(c);
        return true;
    }

    public int line() throws IllegalArgumentException, IllegalStateException {
        ArrayList<Text> parts = split(takeWritten());
        switch (parts.size()) {
            case 0:
                return READ_NOTHING;
            case 1:
                return setOrder(parts.get(0).characters);
            case 2:
                return readPair(parts.get(0).characters, parts.get(1).characters);
            case 4:
                return readFour(parts);
            default:
                throw new IllegalArgumentException();
        }
    }

    public int look(int realm) throws IllegalArgumentException, NoSuchElementException {
        String name = takeWritten();
        if (!isThere(realm) || !isName(name)) {
            throw new IllegalArgumentException();
        }
        timesAsked = 0;
        int place = lookFor(name, realms.get(realm), 1);
        if (place == NONE) {
            throw new NoSuchElementException();
        }
        return place;
    }

    public int many() {
        return timesAsked;
    }

    public int asked(int i) {
        return i >= 0 && i < timesAsked && i < MOST_TOLD ? toldRealms[i] : NONE;
    }

    public int kept(int realm) {
        return isThere(realm) ? realms.get(realm).finds.size() : NONE;
    }

    public int used(int archive) {
        return archive >= 0 && archive < archives.size() ? archives.get(archive).timesFound : NONE;
    }

    public boolean drop(int realm) {
        if (!isThere(realm)) {
            return false;
        }
        realms.get(realm).went = true;
        return true;
    }

    public int realm() {
        Realm found = realmWith(takeWritten());
        return found == null ? NONE : found.number;
    }

    public int count(int what) {
        switch (what) {
            case 0:
                return archives.size();
            case 1:
                return realms.size();
            case 2:
                return realmsThere();
            default:
                return NONE;
        }
    }

    private String takeWritten() {
        String text = written.toString();
        written.setLength(0);
        return text;
    }

    private static ArrayList<Text> split(String line) {
        ArrayList<Text> parts = new ArrayList<>();
        int start = 0;
        for (int i = 0; i <= line.length(); i++) {
            if (i == line.length() || line.charAt(i) == ' ') {
                if (start < i) {
                    parts.add(new Text(line.substring(start, i)));
                }
                start = i + 1;
            }
        }
        return parts;
    }

    private static boolean isWord(String text) {
        for (int i = 0; i < text.length(); i++) {
            if (text.charAt(i) < 'a' || text.charAt(i) > 'z') {
                return false;
            }
        }
        return text.length() >= 1 && text.length() <= MOST_LETTERS;
    }

    private static boolean isName(String text) {
        int words = 0;
        int start = 0;
        for (int i = 0; i <= text.length(); i++) {
            if (i == text.length() || text.charAt(i) == '.') {
                if (!isWord(text.substring(start, i))) {
                    return false;
                }
                words++;
                start = i + 1;
            }
        }
        return words <= MOST_WORDS;
    }

    private static boolean liesIn(String name, String pack) {
        int end = pack.length();
        if (name.length() < end || !name.substring(0, end).equals(pack)) {
            return false;
        }
        return name.length() == end || name.charAt(end) == '.';
    }

    private boolean isThere(int realm) {
        return realm >= 0 && realm < realms.size() && !realms.get(realm).went;
    }

    private int realmsThere() {
        int there = 0;
        for (int i = 0; i < realms.size(); i++) {
            if (!realms.get(i).went) {
                there++;
            }
        }
        return there;
    }

    /** The archive with that word, or null. */
    private Archive archiveWith(String word) {
        for (int i = 0; i < archives.size(); i++) {
            if (archives.get(i).word.equals(word)) {
                return archives.get(i);
            }
        }
        return null;
    }

    /** The realm with that word, or null; one that went has given its word back. */
    private Realm realmWith(String word) {
        for (int i = 0; i < realms.size(); i++) {
            if (!realms.get(i).went && realms.get(i).word.equals(word)) {
                return realms.get(i);
            }
        }
        return null;
    }

    private Archive latestArchive() {
        return archives.isEmpty() ? null : archives.get(archives.size() - 1);
    }

    private Realm latestRealm() {
        return realms.isEmpty() ? null : realms.get(realms.size() - 1);
    }

    // What makes a line none is asked before what leaves no room for it:
    // the document has IllegalStateException only for what is a line.

    private int readPair(String kind, String value) {
        if (kind.equals("archive")) {
            return addArchive(value);
        }
        if (kind.equals("name")) {
            return addName(value);
        }
        if (kind.equals("realm")) {
            return addRealm(value);
        }
        if (kind.equals("load")) {
            return addLoaded(value);
        }
        if (kind.equals("parent")) {
            return setParent(value);
        }
        throw new IllegalArgumentException();
    }

    private int readFour(ArrayList<Text> parts) {
        if (parts.size() != 4
                || !parts.get(0).characters.equals("import")
                || !parts.get(2).characters.equals("from")) {
            throw new IllegalArgumentException();
        }
        return addImport(parts.get(1).characters, parts.get(3).characters);
    }

    private int addArchive(String word) {
        if (!isWord(word) || archiveWith(word) != null) {
            throw new IllegalArgumentException();
        }
        if (archives.size() >= MOST_ARCHIVES) {
            throw new IllegalStateException();
        }
        archives.add(new Archive(archives.size(), word));
        return READ_ARCHIVE;
    }

    private int addName(String name) {
        Archive archive = latestArchive();
        if (!isName(name) || (archive != null && archive.has(name))) {
            throw new IllegalArgumentException();
        }
        if (archive == null || archive.names.size() >= MOST_NAMES) {
            throw new IllegalStateException();
        }
        archive.names.add(new Text(name));
        return READ_NAME;
    }

    private int addRealm(String word) {
        if (!isWord(word) || realmWith(word) != null) {
            throw new IllegalArgumentException();
        }
        if (realms.size() >= MOST_REALMS) {
            throw new IllegalStateException();
        }
        realms.add(new Realm(realms.size(), word));
        return READ_REALM;
    }

    private int addLoaded(String word) {
        Archive archive = archiveWith(word);
        Realm realm = latestRealm();
        if (archive == null || (realm != null && realm.hasLoaded(archive))) {
            throw new IllegalArgumentException();
        }
        if (realm == null || realm.went || realm.loaded.size() >= MOST_LOADED) {
            throw new IllegalStateException();
        }
        realm.loaded.add(archive);
        return READ_ABOUT_REALM;
    }

    private int addImport(String pack, String word) {
        Realm source = realmWith(word);
        Realm realm = latestRealm();
        if (!isName(pack) || source == null || source == realm) {
            throw new IllegalArgumentException();
        }
        if (realm == null || realm.went || realm.imports.size() >= MOST_IMPORTS) {
            throw new IllegalStateException();
        }
        realm.insertImport(new Import(pack, source));
        return READ_ABOUT_REALM;
    }

    private int setParent(String word) {
        Realm parent = realmWith(word);
        Realm realm = latestRealm();
        if (parent == null || parent == realm) {
            throw new IllegalArgumentException();
        }
        if (realm == null || realm.went) {
            throw new IllegalStateException();
        }
        realm.parent = parent;
        return READ_ABOUT_REALM;
    }

    private int setOrder(String order) {
        boolean parentFirst = order.equals("first");
        if (!parentFirst && !order.equals("self")) {
            throw new IllegalArgumentException();
        }
        Realm realm = latestRealm();
        if (realm == null || realm.went) {
            throw new IllegalStateException();
        }
        realm.parentFirst = parentFirst;
        return READ_ABOUT_REALM;
    }

    /** The place of the name as look answers it, or NONE; depth counts the realms that look at once. */
    private int lookFor(String name, Realm realm, int depth) {
        int place = realm.keptPlace(name);
        if (place != NONE) {
            return place;
        }
        noteAsked(realm);
        realm.beingAsked = true;
        place = lookInPlaces(name, realm, depth);
        realm.beingAsked = false;
        if (place != NONE) {
            realm.finds.add(new Find(name, place));
        }
        return place;
    }

    private int lookInPlaces(String name, Realm realm, int depth) {
        int place = lookInImports(name, realm);
        if (place == NONE) {
            place = realm.parentFirst ? lookInParent(name, realm, depth) : lookInItself(name, realm);
        }
        if (place == NONE) {
            place = realm.parentFirst ? lookInItself(name, realm) : lookInParent(name, realm, depth);
        }
        return place;
    }

    private int lookInImports(String name, Realm realm) {
        for (int i = 0; i < realm.imports.size(); i++) {
            Import entry = realm.imports.get(i);
            if (!entry.source.went && liesIn(name, entry.pack)) {
                noteAsked(entry.source);
                int place = lookInItself(name, entry.source);
                if (place != NONE) {
                    return place;
                }
            }
        }
        return NONE;
    }

    private static int lookInItself(String name, Realm realm) {
        for (int i = 0; i < realm.loaded.size(); i++) {
            Archive archive = realm.loaded.get(i);
            if (archive.has(name)) {
                archive.timesFound++;
                return REALM_FACTOR * realm.number + archive.number;
            }
        }
        return NONE;
    }

    // By lines alone a parent is always older than its child, so neither a ring nor a ninth level comes up;
    // both are refused all the same: the document asks for the one, LANGUAGE.md (rule 8) for the other.
    private int lookInParent(String name, Realm realm, int depth) {
        Realm parent = realm.parent;
        if (parent == null || parent.went || parent.beingAsked || depth >= MOST_REALMS) {
            return NONE;
        }
        return lookFor(name, parent, depth + 1);
    }

    private void noteAsked(Realm realm) {
        if (timesAsked < MOST_TOLD) {
            toldRealms[timesAsked] = realm.number;
        }
        timesAsked++;
    }

    /** A text in a list: a list may hold only classes of its own file (LANGUAGE.md, rule 3). */
    private static final class Text {
        final String characters;

        Text(String characters) {
            this.characters = characters;
        }
    }

    private static final class Archive {
        final int number;
        final String word;
        final ArrayList<Text> names;
        int timesFound;

        Archive(int number, String word) {
            this.number = number;
            this.word = word;
            this.names = new ArrayList<>();
            this.timesFound = 0;
        }

        boolean has(String name) {
            for (int i = 0; i < names.size(); i++) {
                if (names.get(i).characters.equals(name)) {
                    return true;
                }
            }
            return false;
        }
    }

    private static final class Import {
        final String pack;
        final Realm source;

        Import(String pack, Realm source) {
            this.pack = pack;
            this.source = source;
        }
    }

    /** A name that a realm keeps, with its place as look answers it. */
    private static final class Find {
        final String name;
        final int place;

        Find(String name, int place) {
            this.name = name;
            this.place = place;
        }
    }

    private static final class Realm {
        final int number;
        final String word;
        final ArrayList<Archive> loaded;
        final ArrayList<Import> imports;
        final ArrayList<Find> finds;
        Realm parent;
        boolean parentFirst;
        boolean went;
        boolean beingAsked;

        Realm(int number, String word) {
            this.number = number;
            this.word = word;
            this.loaded = new ArrayList<>();
            this.imports = new ArrayList<>();
            this.finds = new ArrayList<>();
            this.parent = null;
            this.parentFirst = false;
            this.went = false;
            this.beingAsked = false;
        }

        boolean hasLoaded(Archive archive) {
            for (int i = 0; i < loaded.size(); i++) {
                if (loaded.get(i) == archive) {
                    return true;
                }
            }
            return false;
        }

        /** Narrower packages stand before wider ones, so that looking can go through them as they stand. */
        void insertImport(Import entry) {
            int at = 0;
            while (at < imports.size() && imports.get(at).pack.length() >= entry.pack.length()) {
                at++;
            }
            imports.add(at, entry);
        }

        /** Where the realm found the name before, or NONE. */
        int keptPlace(String name) {
            for (int i = 0; i < finds.size(); i++) {
                if (finds.get(i).name.equals(name)) {
                    return finds.get(i).place;
                }
            }
            return NONE;
        }
    }
}
