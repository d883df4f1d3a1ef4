import java.lang.reflect.Field;
import java.lang.reflect.Method;
import java.lang.reflect.Modifier;
import java.nio.charset.StandardCharsets;
import java.nio.file.Files;
import java.nio.file.Paths;
import java.util.Arrays;
import java.util.List;
import java.util.Set;
import java.util.TreeSet;
import java.util.regex.Matcher;
import java.util.regex.Pattern;

/** The public face, and what of LANGUAGE.md can be seen from outside. The source's path is told. */
public final class LanguageTest {
  private static final String FACE =
      "road(3) person(1) change(6) knows(3) worth(2) feed(5) end(1) cover(0) marks(2) ties(3) lives(2)"
          + " sees(2) far(2) fits(5) asked(6) stale(4) letter(4) days(1) letters(2) sure(6) rings(4)"
          + " told(1) judged(4) cheapest(5) apart(3) ends(5) needs(6) mends(4) tellers(3) lied(3)"
          + " alone(4) chain(2) circle(1) strangers(1) copies(7) often(0) count(1) image(1) back(1)";
  private static int wrong = 0;

  private static void must(boolean holds, String rule) {
    if (!holds) {
      wrong++;
      System.out.println("not so: " + rule);
    }
  }

  public static void main(String[] args) throws Exception {
    face();
    inside();
    if (args.length > 0) {
      source(new String(Files.readAllBytes(Paths.get(args[0])), StandardCharsets.UTF_8));
    }
    System.out.println(wrong == 0 ? "the language is kept to" : wrong + " rules are not kept to");
    if (wrong != 0) {
      System.exit(1);
    }
  }

  private static void face() {
    Class<?> c = NamelessPost.class;
    must(Modifier.isPublic(c.getModifiers()) && Modifier.isFinal(c.getModifiers()), "rule 1: public and final");
    must(c.getDeclaredConstructors().length == 1 && c.getConstructors().length == 1, "rule 1: one constructor");
    Set<String> face = new TreeSet<>();
    for (Method m : c.getDeclaredMethods()) {
      if (!Modifier.isPrivate(m.getModifiers())) {
        face.add(m.getName() + "(" + m.getParameterCount() + ")");
        must(Modifier.isPublic(m.getModifiers()) && !Modifier.isStatic(m.getModifiers()), "rule 1: " + m);
        must(m.getReturnType() == (m.getName().equals("knows") ? boolean.class : int.class), "rule 1: answer of " + m);
      }
    }
    must(face.equals(new TreeSet<>(Arrays.asList(FACE.split(" ")))), "rule 1: the methods are those of the document");
    for (Field f : c.getDeclaredFields()) {
      must(Modifier.isPrivate(f.getModifiers()) || f.getName().equals("NONE"), "rule 1: private " + f);
    }
  }

  private static void inside() {
    Set<String> names = new TreeSet<>();
    for (String method : FACE.split(" ")) {
      names.add(method.substring(0, method.indexOf('(')));
    }
    List<Class<?>> classes = Arrays.asList(NamelessPost.class.getDeclaredClasses());
    must(classes.size() <= 12, "rule 11: classes");
    for (Class<?> c : classes) {
      must(Modifier.isStatic(c.getModifiers()) && !Modifier.isPublic(c.getModifiers()), "rule 2: " + c);
      for (Method m : c.getDeclaredMethods()) {
        must(!names.contains(m.getName()), "rule 1: name of " + m);
        must(m.getParameterCount() <= 7, "rule 11: parameters of " + m);
      }
      int fields = 0;
      for (Field f : c.getDeclaredFields()) {
        must(!Modifier.isStatic(f.getModifiers()) || Modifier.isFinal(f.getModifiers()), "rule 5: " + f);
        fields += Modifier.isStatic(f.getModifiers()) ? 0 : 1;
      }
      must(fields <= 20, "rule 11: fields of " + c);
    }
    for (Method m : NamelessPost.class.getDeclaredMethods()) {
      must(!Modifier.isPrivate(m.getModifiers()) || !names.contains(m.getName()), "rule 1: name of " + m);
    }
  }

  private static void source(String whole) {
    String code = whole.replaceAll("(?s)/\\*.*?\\*/", "").replaceAll("//[^\n]*", "").replaceAll("\"[^\"\n]*\"", "\"\"");
    String[] barred = {"\\b(throws?|try|catch|finally|synchronized|assert|package|hashCode|toString)\\b", "Exact\\(", "\\bSystem\\.(?!arraycopy)"};
    for (String word : barred) {
      Matcher found = Pattern.compile(word).matcher(code);
      must(!found.find(), "rule 4 or 6: " + word);
    }
    must(!code.contains("->") && !code.contains("::"), "rule 2: no lambda, no method reference");
    must(!Pattern.compile("static\\s*\\{").matcher(code).find(), "rule 5: no static block");
    Matcher imports = Pattern.compile("import [^;]+;").matcher(code);
    while (imports.find()) {
      must(imports.group().equals("import java.util.Arrays;"), "rule 4: " + imports.group());
    }
    for (char sign : whole.toCharArray()) {
      must(sign < 128, "rule 4: a sign above 127");
    }
    methodsAreShort(whole);
  }

  private static void methodsAreShort(String whole) {
    String[] lines = whole.split("\n");
    int start = -1;
    String indent = "";
    for (int i = 0; i < lines.length; i++) {
      Matcher head = Pattern.compile("^(  |    )[A-Za-z][^;=]*(\\) \\{|\\($)$").matcher(lines[i]);
      if (start < 0 && head.find() && !lines[i].contains(" class ")) {
        start = i;
        indent = head.group(1);
      } else if (start >= 0 && lines[i].equals(indent + "}")) {
        must(i - start < 60, "rule 11: lines of " + lines[start].trim());
        start = -1;
      }
    }
  }
}
