import java.io.DataInputStream;
import java.io.IOException;
import java.lang.reflect.Constructor;
import java.lang.reflect.Field;
import java.lang.reflect.Method;
import java.lang.reflect.Modifier;
import java.nio.file.Files;
import java.nio.file.Path;
import java.util.ArrayList;
import java.util.Arrays;
import java.util.List;
import java.util.Set;
import java.util.TreeSet;
import java.util.regex.Matcher;
import java.util.regex.Pattern;

/** What of LANGUAGE.md, of the document's face and of the room can be looked at from outside. */
public final class PearSummerRules {
    private static final String FACE = "fruit(int,int)int of(int,int)int cut(int,boolean)int set(int,int,int)int row(int,int,int)int "
        + "feed(int)int wall()int told(int)int pass(int)int on(int,int)int clear(int,int)int help(int,int)int want(int)int sent(int)int "
        + "see(int,int)int can(int,int)int which(int)int odds(int,int,int)long mean(int)long plan(int,int)int ends(int)int "
        + "book(int,int)int looked()int judge(int,int)int image()int undo()int act(int,int,int)int trace(int)int taken(int,int)int "
        + "count(int)int tape(int,int,int)int item(int,int,long)int read(int,int)long shift(int,int,int,int,int)int";

    /** Rule 4, as the compiler writes the calls; a name that ends in Exact is refused besides. */
    private static final Pattern LIBRARY = Pattern.compile("PearSummer(\\$\\w+)?\\..*|java/lang/(Object|Record)\\.<init>|java/lang/runtime/ObjectMethods\\.bootstrap"
        + "|java/lang/Enum\\.(<init>|valueOf|ordinal)|\\[.*\\.clone"
        + "|java/lang/String\\.(length|charAt|isEmpty|equals|indexOf|substring|toCharArray|<init>)"
        + "|java/lang/StringBuilder\\.(<init>|append|charAt|setCharAt|setLength|deleteCharAt|reverse|length|toString)"
        + "|java/util/(ArrayList|List)\\.(<init>|add|get|set|remove|size|isEmpty|clear|iterator|of)|java/util/Iterator\\.(hasNext|next)"
        + "|java/lang/(Math|Integer|Long)\\.\\w+|java/lang/System\\.arraycopy|java/util/Arrays\\.(copyOf|copyOfRange|fill)");

    private static final long MOST_BYTES = 4_000_000;

    private static int wrong;

    public static void main(String[] args) throws Exception {
        theFace();
        theClassesInside();
        theSource(Files.readString(Path.of("src/main/java/PearSummer.java")));
        theLibrary();
        theRoom();
        System.out.println(wrong == 0 ? "the rules are kept" : wrong + " rules are not kept");
        if (wrong != 0) {
            System.exit(1);
        }
    }

    private static void must(boolean is, String rule) {
        if (!is) {
            wrong++;
            System.out.println("not kept: " + rule);
        }
    }

    private static List<Class<?>> classes() {
        List<Class<?>> all = new ArrayList<>(Arrays.asList(PearSummer.class.getDeclaredClasses()));
        all.add(PearSummer.class);
        return all;
    }

    private static String told(Method m) {
        StringBuilder told = new StringBuilder(m.getName()).append('(');
        for (Class<?> type : m.getParameterTypes()) {
            told.append(told.charAt(told.length() - 1) == '(' ? "" : ",").append(type.getName());
        }
        return told.append(')').append(m.getReturnType().getName()).toString();
    }

    private static void theFace() {
        int kind = PearSummer.class.getModifiers();
        must(Modifier.isPublic(kind) && Modifier.isFinal(kind), "the class is public and final");
        Set<String> face = new TreeSet<>();
        for (Method m : PearSummer.class.getDeclaredMethods()) {
            must(Modifier.isPublic(m.getModifiers()) || Modifier.isPrivate(m.getModifiers()), m.getName() + " is public or private");
            if (Modifier.isPublic(m.getModifiers())) {
                face.add(told(m));
            }
        }
        must(face.equals(new TreeSet<>(Arrays.asList(FACE.split(" ")))), "the methods are the document's: " + face);
        Constructor<?>[] makers = PearSummer.class.getDeclaredConstructors();
        must(makers.length == 1 && makers[0].getParameterCount() == 0 && Modifier.isPublic(makers[0].getModifiers()), "one public constructor");
        Set<String> constants = new TreeSet<>();
        for (Field f : PearSummer.class.getDeclaredFields()) {
            must(Modifier.isPublic(f.getModifiers()) || Modifier.isPrivate(f.getModifiers()), f.getName() + " is public or private");
            if (Modifier.isPublic(f.getModifiers())) {
                constants.add(f.getName());
            }
        }
        must(constants.equals(Set.of("NONE", "BAD", "STATE", "FULL", "NO")), "the constants are the document's");
    }

    private static void theClassesInside() {
        Set<String> face = new TreeSet<>();
        for (String method : FACE.split(" ")) {
            face.add(method.substring(0, method.indexOf('(')));
        }
        must(classes().size() <= 12, "at most twelve classes");
        for (Class<?> c : classes()) {
            boolean isInside = c != PearSummer.class;
            must(!isInside || Modifier.isStatic(c.getModifiers()) && !Modifier.isPublic(c.getModifiers()), c + " is static and not public");
            int fields = 0;
            for (Field f : c.getDeclaredFields()) {
                boolean isStatic = Modifier.isStatic(f.getModifiers());
                must(!isStatic || Modifier.isFinal(f.getModifiers()), c + "." + f.getName() + " is final");
                fields += isStatic ? 0 : 1;
            }
            must(fields <= 20, c + " has at most twenty fields");
            for (Method m : c.getDeclaredMethods()) {
                must(m.getParameterCount() <= 7, m + " has at most seven parameters");
                must(!isInside || !face.contains(m.getName()), m + " does not bear a public method's name");
            }
        }
    }

    private static void theSource(String source) {
        String code = source.replaceAll("(?s)/\\*.*?\\*/", "").replaceAll("//[^\n]*", "").replaceAll("'[^']*'", "' '").replaceAll("\"[^\"]*\"", "\"\"");
        String[] words = {"throw", "throws", "try", "catch", "synchronized", "assert", "package", "volatile", "native",
            "Object", "Random", "Thread", "hashCode", "\\w+Exact", "static\\s*\\{", "->", "::"};
        for (String word : words) {
            boolean isWord = Character.isLetter(word.charAt(0)) && !word.endsWith("{");
            Matcher found = Pattern.compile(isWord ? "\\b" + word + "\\b" : word).matcher(code);
            must(!found.find(), "no " + word);
        }
        Matcher imports = Pattern.compile("import ([^;]*);").matcher(code);
        while (imports.find()) {
            must(imports.group(1).matches("java\\.util\\.(Arrays|ArrayList|List|Iterator)"), "no " + imports.group());
        }
        Matcher library = Pattern.compile("\\b(Arrays|System|Math|Integer|Long)\\.(\\w+)").matcher(code);
        while (library.find()) {
            must(library.group().matches("(Arrays\\.(copyOf|copyOfRange|fill)|System\\.arraycopy|(Math|Integer|Long)\\..*)"), "no " + library.group());
        }
        methodsAreShort(code.split("\n"));
    }

    /** What the compiled classes call, by their constant pools: no way of writing a call hides it here. */
    private static void theLibrary() throws IOException {
        for (Class<?> c : classes()) {
            try (DataInputStream in = new DataInputStream(c.getResourceAsStream(c.getName() + ".class"))) {
                for (String call : calledBy(in)) {
                    must(LIBRARY.matcher(call).matches() && !call.endsWith("Exact"), "no " + call + " in " + c.getName());
                }
            }
        }
    }

    private static List<String> calledBy(DataInputStream in) throws IOException {
        in.skipBytes(8);
        int size = in.readUnsignedShort();
        String[] texts = new String[size];
        int[][] pairs = new int[size][];
        boolean[] isCall = new boolean[size];
        for (int i = 1; i < size; i++) {
            int tag = in.readUnsignedByte();
            switch (tag) {
                case 1: texts[i] = in.readUTF(); break;
                case 3: case 4: in.skipBytes(4); break;
                case 5: case 6: in.skipBytes(8); i++; break;
                case 7: case 8: case 16: case 19: case 20: pairs[i] = new int[] {in.readUnsignedShort()}; break;
                case 9: case 10: case 11: case 12: case 17: case 18:
                    pairs[i] = new int[] {in.readUnsignedShort(), in.readUnsignedShort()};
                    isCall[i] = tag == 10 || tag == 11;
                    break;
                case 15: in.skipBytes(3); break;
                default: throw new IOException("tag " + tag);
            }
        }
        List<String> called = new ArrayList<>();
        for (int i = 1; i < size; i++) {
            if (isCall[i]) {
                called.add(texts[pairs[pairs[i][0]][0]] + "." + texts[pairs[pairs[i][1]][0]]);
            }
        }
        return called;
    }

    private static void methodsAreShort(String[] lines) {
        int begin = -1;
        String end = "";
        for (int i = 0; i < lines.length; i++) {
            Matcher head = Pattern.compile("^(    |        )[a-zA-Z].*\\) \\{$").matcher(lines[i]);
            if (begin < 0 && head.find()) {
                begin = i;
                end = head.group(1) + "}";
            } else if (begin >= 0 && lines[i].equals(end)) {
                must(i - begin <= 60, "a short method at " + lines[begin].trim());
                begin = -1;
            }
        }
    }

    /** A whole life of the dearest calls of each sort stays far below the room, which has some 7.3 million fields and elements. */
    private static void theRoom() {
        com.sun.management.ThreadMXBean bean = (com.sun.management.ThreadMXBean) java.lang.management.ManagementFactory.getThreadMXBean();
        long id = Thread.currentThread().getId();
        askAll(aTree());
        PearSummer x = aTree();
        long before = bean.getThreadAllocatedBytes(id);
        askAll(x);
        long asked = bean.getThreadAllocatedBytes(id) - before;
        must(asked < MOST_BYTES, "all that is asked is small; its bytes: " + asked);
        PearSummer y = new PearSummer();
        before = bean.getThreadAllocatedBytes(id);
        for (int i = 0; i < 512; i++) {
            y.wall();
        }
        long walls = bean.getThreadAllocatedBytes(id) - before;
        must(walls < MOST_BYTES, "512 walls of no text are small; their bytes: " + walls);
        before = bean.getThreadAllocatedBytes(id);
        for (int i = 0; i < 100; i++) {
            new PearSummer();
        }
        long made = bean.getThreadAllocatedBytes(id) - before;
        must(made < MOST_BYTES, "a hundred new objects are small; their bytes: " + made);
    }

    private static PearSummer aTree() {
        PearSummer x = new PearSummer();
        for (int kind = 1; kind < 7; kind++) {
            x.fruit(kind, kind);
        }
        for (char sign : "sun 3 (p=1|h>3&!r<3)&k<4;shade 2 d>4|v=3;ripe 60".toCharArray()) {
            x.feed(sign);
        }
        x.wall();
        for (int i = 0; i < 6; i++) {
            x.want(1 << i);
            x.see(i, 64);
            x.plan(0, 0);
            x.book(i, 0);
        }
        x.tape(0, 2, 60);
        return x;
    }

    private static void askAll(PearSummer x) {
        for (int i = 0; i < 6; i++) {
            for (int what = 0; what < 22; what++) {
                x.of(i, what);
                x.told(what);
            }
            x.on(30, 10 + i);
            x.on(30, 20 + i);
            x.clear(i, 4095);
            x.help(i, 1);
            x.sent(i);
            x.can(i, 1);
            x.which(1);
            x.odds(i, i, 1);
            x.mean(1);
            x.ends(1);
            x.looked();
            x.judge(0, i);
            x.image();
            x.undo();
            x.act(i, 2, 5);
            x.trace(i);
            x.taken(i, i);
            x.count(i);
            x.tape(0, 2, 60);
            x.item(0, i, 5);
            x.read(0, i);
            x.shift(0, 0, 0, 1, 20);
            x.pass(60);
        }
    }
}
