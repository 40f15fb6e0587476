import java.lang.reflect.Array;
import java.lang.reflect.Field;
import java.lang.reflect.Modifier;
import java.util.IdentityHashMap;
import java.util.List;
import java.util.Map;

/**
 * All that an object holds, told as one text: what no call tells (a delay, a number that is due) is
 * in it, too. Two texts differ if anything was changed in between.
 */
final class Snapshot {
  private final StringBuilder told = new StringBuilder();
  private final Map<Object, Integer> seen = new IdentityHashMap<>();

  private Snapshot() {
  }

  static String of(Object whole) {
    Snapshot snapshot = new Snapshot();
    try {
      snapshot.tell(whole);
    } catch (IllegalAccessException closed) {
      throw new IllegalStateException(closed);
    }
    return snapshot.told.toString();
  }

  static int firstDifference(String one, String other) {
    int at = 0;
    while (at < one.length() && at < other.length() && one.charAt(at) == other.charAt(at)) {
      at++;
    }
    return at;
  }

  static String excerpt(String told, int at) {
    return told.substring(Math.max(0, at - 60), Math.min(told.length(), at + 30));
  }

  private void tell(Object part) throws IllegalAccessException {
    if (part == null || part instanceof Number || part instanceof Boolean
        || part instanceof Character || part instanceof String || part instanceof Enum) {
      told.append(part).append(' ');
    } else if (seen.containsKey(part)) {
      told.append('#').append(seen.get(part)).append(' ');
    } else {
      seen.put(part, seen.size());
      tellInside(part);
    }
  }

  private void tellInside(Object part) throws IllegalAccessException {
    if (part instanceof List<?> list) {
      told.append('(');
      for (Object element : list) {
        tell(element);
      }
      told.append(") ");
    } else if (part.getClass().isArray()) {
      told.append('[');
      for (int i = 0; i < Array.getLength(part); i++) {
        tell(Array.get(part, i));
      }
      told.append("] ");
    } else {
      tellFields(part);
    }
  }

  private void tellFields(Object part) throws IllegalAccessException {
    told.append(part.getClass().getSimpleName()).append('{');
    for (Class<?> type = part.getClass(); type != Object.class; type = type.getSuperclass()) {
      for (Field field : type.getDeclaredFields()) {
        if (!Modifier.isStatic(field.getModifiers())) {
          field.setAccessible(true);
          told.append(field.getName()).append('=');
          tell(field.get(part));
        }
      }
    }
    told.append("} ");
  }
}
