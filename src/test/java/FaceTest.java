import java.lang.reflect.Constructor;
import java.lang.reflect.Field;
import java.lang.reflect.Method;
import java.lang.reflect.Modifier;
import java.util.Arrays;
import java.util.List;
import java.util.Set;
import java.util.TreeSet;

/** The face is just what the document writes: no member more, none less. */
public final class FaceTest {
  private static final List<String> METHODS = List.of(
      "anew 0", "rule 2", "seed 1", "put 3", "about 2", "shoot 3", "blow 1", "game 1", "score 1", "twelfths 1",
      "points 1", "chance 2", "best 2", "ahead 0", "write 3", "wipe 0", "wrong 0", "canBe 1", "seen 7", "scatter 3",
      "keep 0", "back 0", "count 1");

  public static void main(String[] args) {
    Check check = new Check();
    Class<?> c = JumpDiscs.class;
    check.holds("public final", Modifier.isPublic(c.getModifiers()) && Modifier.isFinal(c.getModifiers()));
    Set<String> open = new TreeSet<>();
    for (Method m : c.getDeclaredMethods()) {
      if (m.isSynthetic() || Modifier.isPrivate(m.getModifiers())) {
        check.holds("private " + m.getName() + " bears no public name",
            METHODS.stream().noneMatch(s -> s.startsWith(m.getName() + " ")));
        continue;
      }
      check.holds(m.getName() + " is public, of the object, of int", Modifier.isPublic(m.getModifiers())
          && !Modifier.isStatic(m.getModifiers()) && m.getReturnType() == int.class
          && Arrays.stream(m.getParameterTypes()).allMatch(t -> t == int.class));
      open.add(m.getName() + " " + m.getParameterCount());
    }
    check.holds("the methods of the face", open.equals(new TreeSet<>(METHODS)));
    Set<String> fields = new TreeSet<>();
    for (Field f : c.getDeclaredFields()) {
      if (!Modifier.isPrivate(f.getModifiers())) fields.add(Modifier.toString(f.getModifiers()) + " " + f.getName());
      if (Modifier.isStatic(f.getModifiers())) check.holds(f.getName() + " is final", Modifier.isFinal(f.getModifiers()));
    }
    check.holds("the constants of the face", fields.equals(Set.of("public static final BAD",
        "public static final NO", "public static final FULL", "public static final NONE")));
    Constructor<?>[] made = c.getDeclaredConstructors();
    check.holds("one public constructor", made.length == 1 && Modifier.isPublic(made[0].getModifiers())
        && made[0].getParameterCount() == 0);
    for (Class<?> inside : c.getDeclaredClasses()) {
      check.holds(inside.getName() + " is static", Modifier.isStatic(inside.getModifiers()));
    }
    check.due("BAD", JumpDiscs.BAD, -1);
    check.due("NO", JumpDiscs.NO, -2);
    check.due("FULL", JumpDiscs.FULL, -3);
    check.due("NONE", JumpDiscs.NONE, -4);
    check.finish();
  }
}
