import java.util.ArrayDeque;
import java.util.Deque;
import java.util.HashMap;
import java.util.HashSet;
import java.util.LinkedHashMap;
import java.util.LinkedHashSet;
import java.util.Map;
import java.util.Set;
import javax.lang.model.element.Element;

/** Which method of the class calls which, the library's too. */
final class Calls {
    private final Map<Element, Set<Element>> called = new LinkedHashMap<>();
    private final Map<Element, Integer> depths = new HashMap<>();

    void put(Element caller, Element method) {
        called.computeIfAbsent(caller, key -> new LinkedHashSet<>()).add(method);
    }

    Set<Element> callers() {
        return called.keySet();
    }

    Set<Element> calledBy(Element caller) {
        return called.getOrDefault(caller, Set.of());
    }

    /** Whether it calls itself, by others perhaps. */
    boolean comesBackTo(Element method) {
        Set<Element> reached = new HashSet<>();
        Deque<Element> open = new ArrayDeque<>(calledBy(method));
        while (!open.isEmpty()) {
            Element next = open.pop();
            if (reached.add(next)) {
                open.addAll(calledBy(next));
            }
        }
        return reached.contains(method);
    }

    /** How many calls stand open at once, its own counted, at most; a recursion is counted once. */
    int depthOf(Element method) {
        Integer known = depths.get(method);
        if (known != null) {
            return known;
        }
        depths.put(method, 0);
        int most = 0;
        for (Element next : calledBy(method)) {
            most = Math.max(most, depthOf(next));
        }
        depths.put(method, most + 1);
        return most + 1;
    }
}
