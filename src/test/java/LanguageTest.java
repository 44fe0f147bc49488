import java.io.IOException;
import java.nio.file.Files;
import java.nio.file.Path;
import java.util.ArrayList;
import java.util.Arrays;
import java.util.List;
import java.util.Set;
import java.util.TreeSet;
import java.util.regex.Matcher;
import java.util.regex.Pattern;

/** What of ../shared/LANGUAGE.md can be seen in the text of the class and in its public face. */
public final class LanguageTest {
  private static final String FILE = "src/main/java/LaytimeDesk.java";
  private static final String[] NEVER = {
      "\\b(throw|throws|try|catch|synchronized|assert|native|volatile|transient)\\b", "->", "::", "\\binstanceof\\b",
      "\\b(equals|hashCode|toString)\\b", "\\bExact\\b", "\\b(System|Thread|Random|Math)\\.(?!arraycopy|min|max|abs|floor)",
      "\\bstatic\\s*\\{", "\\bpackage\\b", "@", "\\bwhile\\s*\\(\\s*true", "\\bvar\\b", "\\bInteger\\.", "\\bprotected\\b",
      "\\[\\]\\s*\\[\\]\\s*\\["};
  private static final String[] FACE = {
      "int contract()", "boolean term(int,int,int,int,int,int)", "int yields(int,int,int)", "boolean amount(int,int,int)",
      "boolean heading(int,int,int)", "boolean strike(int,int)", "int kind(int,int)", "int headed(int,int)",
      "int span(int,int,int)", "boolean port(int,int,int)", "boolean close(int)", "boolean event(int,int,int)",
      "boolean day(int,int,boolean)", "int tear(int,int,int)", "int copy(int,int,int,int,int)",
      "boolean free(int,int,boolean)", "boolean tons(int,long)", "boolean office(int,int,int,int)",
      "boolean offset(int,int)", "boolean rate(int,long,long)", "boolean together(int)", "int told(int,int)",
      "long weight(int,int)", "int state(int,int)", "int minute(int,int,boolean)", "int why(int,int,boolean)",
      "int counts(int,int,int,boolean)", "int by(int,int,boolean)", "long sum(int,int,boolean)",
      "long as(int,int,int,boolean)", "boolean claim(int)", "int tell(int,int)", "int check(int,boolean)",
      "boolean image()", "boolean back()", "int status(int)"};

  private static int wrong = 0;
  private static void bad(String what) {
    wrong++;
    System.out.println(what);
  }

  private static String withoutComments(String text) {
    return text.replaceAll("(?s)/\\*.*?\\*/", "").replaceAll("//[^\n]*", "");
  }

  private static void words(String code) {
    for (String never : NEVER) {
      Matcher m = Pattern.compile(never).matcher(code);
      if (m.find()) bad("not in the language: " + m.group());
    }
    Matcher imports = Pattern.compile("import ([\\w.*]+);").matcher(code);
    while (imports.find()) if (!imports.group(1).equals("java.util.Arrays")) bad("import " + imports.group(1));
    Matcher arrays = Pattern.compile("Arrays\\.(\\w+)").matcher(code);
    while (arrays.find()) if (!Set.of("copyOf", "copyOfRange", "fill").contains(arrays.group(1))) bad(arrays.group());
    for (int i = 0; i < code.length(); i++) if (code.charAt(i) > 126) bad("a sign beyond 126 at " + i);
  }

  private static void methods(String code) {
    Set<String> open = new TreeSet<>();
    for (String face : FACE) open.add(face.substring(face.indexOf(' ') + 1, face.indexOf('(')));
    String[] lines = code.split("\n");
    Pattern head = Pattern.compile("^\\s+(public |private |static |final )*[\\w\\[\\]]+ (\\w+)\\(([^)]*)\\) \\{$");
    int from = -1;
    String name = "";
    String indent = "";
    for (int i = 0; i < lines.length; i++) {
      Matcher m = head.matcher(lines[i]);
      if (m.matches() && !lines[i].contains(" new ") && !lines[i].trim().startsWith("return")) {
        from = i;
        name = m.group(2);
        indent = lines[i].substring(0, lines[i].length() - lines[i].stripLeading().length());
        if (m.group(3).split(",").length > 7) bad("more than seven parameters: " + name);
        if (!lines[i].contains("public ") && open.contains(name)) bad("bears the name of a public one: " + name);
      }
      if (from >= 0 && lines[i].equals(indent + "}")) {
        if (i - from > 60) bad("longer than 60 lines: " + name);
        from = -1;
      }
    }
  }

  private static void face() {
    List<String> got = new ArrayList<>();
    for (var m : LaytimeDesk.class.getDeclaredMethods()) {
      int flags = m.getModifiers();
      if (java.lang.reflect.Modifier.isPrivate(flags)) continue;
      StringBuilder text = new StringBuilder(m.getReturnType().getName()).append(' ').append(m.getName()).append('(');
      for (Class<?> p : m.getParameterTypes()) text.append(text.charAt(text.length() - 1) == '(' ? "" : ",").append(p.getName());
      got.add(text.append(')').toString());
      if (!java.lang.reflect.Modifier.isPublic(flags)) bad("neither public nor private: " + m);
    }
    Set<String> want = new TreeSet<>(Arrays.asList(FACE));
    for (String g : got) if (!want.remove(g)) bad("not of the face: " + g);
    for (String w : want) bad("missing of the face: " + w);
    for (var f : LaytimeDesk.class.getDeclaredFields()) {
      boolean isOpen = !java.lang.reflect.Modifier.isPrivate(f.getModifiers());
      if (isOpen && !f.getName().equals("NONE")) bad("a field that is not private: " + f);
    }
    if (LaytimeDesk.class.getDeclaredConstructors().length != 1) bad("more than one constructor");
    Class<?>[] inside = LaytimeDesk.class.getDeclaredClasses();
    if (inside.length > 11) bad("more than twelve classes");
    for (Class<?> c : inside) {
      if (!java.lang.reflect.Modifier.isStatic(c.getModifiers())) bad("not static: " + c);
      int fields = 0;
      for (var f : c.getDeclaredFields()) if (!java.lang.reflect.Modifier.isStatic(f.getModifiers())) fields++;
      if (fields > 20) bad("more than twenty fields: " + c);
    }
  }

  /** What a call makes is counted in one room: no method but a constructor makes an object. */
  private static void objects(String code) {
    String depth = "";
    String[] lines = code.split("\n");
    boolean constructor = false;
    for (String line : lines) {
      if (line.matches("^\\s+(public )?[A-Z]\\w*\\([^)]*\\) \\{$")) { constructor = true; depth = line.replaceAll("\\S.*", ""); }
      boolean field = line.matches("^\\s+(private )?(static )?final [\\w\\[\\]]+ \\w+ = new .*");
      if (line.contains(" new ") && !constructor && !field) bad("makes an object outside a constructor: " + line.trim());
      if (constructor && line.equals(depth + "}")) constructor = false;
    }
  }

  public static void main(String[] args) throws IOException {
    String code = withoutComments(Files.readString(Path.of(FILE)));
    words(code);
    methods(code);
    face();
    objects(code);
    System.out.println(wrong == 0 ? "the language is kept" : wrong + " faults");
    if (wrong != 0) System.exit(1);
  }
}
