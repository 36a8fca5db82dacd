import java.util.ArrayList;
import java.util.List;
import java.util.Set;
import java.util.TreeSet;

/**
 * The document told a second time, plainly and slowly: sets are sets, what is EXPECTED is looked up
 * anew by recursion, SEATS are counted anew each time. ModelTest holds the class against it.
 */
final class NaiveOffice {
    static final class Step {
        int number;
        int kind;
        int length;
        int of;
        Set<Integer> needs = new TreeSet<>();
    }

    static final class Order {
        int item;
        int many;
        int day;
    }

    static final class Session {
        int course;
        int day;
        int seats;
    }

    static final class Task {
        Step step;
        int state;
        int began = -1;
        int length;
        int session = -1;
        int lost;
    }

    static final class Person {
        int start;
        boolean left;
        List<Task> tasks = new ArrayList<>();

        Task task(int step) {
            for (Task task : tasks) {
                if (task.step.number == step) {
                    return task;
                }
            }
            return null;
        }
    }

    static final Integer UNKNOWN = null;

    final List<Step> steps = new ArrayList<>();
    final List<Set<Integer>> roles = new ArrayList<>();
    final List<Set<Integer>> rights = new ArrayList<>();
    final int[] stock = new int[4];
    final List<Order> orders = new ArrayList<>();
    final List<Session> sessions = new ArrayList<>();
    final List<Person> people = new ArrayList<>();
    int today;

    NaiveOffice() {
        for (int role = 0; role < 4; role++) {
            roles.add(new TreeSet<>());
        }
    }

    static Set<Integer> members(int set) {
        Set<Integer> members = new TreeSet<>();
        for (int k = 0; k < 31; k++) {
            if ((set & 1 << k) != 0) {
                members.add(k);
            }
        }
        return members;
    }

    static int told(Set<Integer> members) {
        int sum = 0;
        for (int k : members) {
            sum += 1 << k;
        }
        return sum;
    }

    boolean areSteps(int set) {
        if (set < 0) {
            return false;
        }
        for (int k : members(set)) {
            if (k >= steps.size()) {
                return false;
            }
        }
        return true;
    }

    static void argument(boolean fine) {
        if (!fine) {
            throw new IllegalArgumentException();
        }
    }

    static void state(boolean fine) {
        if (!fine) {
            throw new IllegalStateException();
        }
    }

    static void index(boolean fine) {
        if (!fine) {
            throw new IndexOutOfBoundsException();
        }
    }

    int step(int kind, int length, int needs, int of) {
        argument(kind >= 0 && kind <= 3 && length >= 1 && length <= 9 && areSteps(needs));
        argument(kind != 0 || of >= 0 && of <= 255);
        argument(kind != 1 || of >= 0 && of <= 3);
        state(steps.size() < 12);
        Step step = new Step();
        step.number = steps.size();
        step.kind = kind;
        step.length = length;
        step.of = of;
        step.needs = members(needs);
        steps.add(step);
        return step.number;
    }

    int role(int role, int set) {
        index(role >= 0 && role <= 3);
        argument(areSteps(set));
        return told(roles.set(role, members(set)));
    }

    int right(int set) {
        argument(set >= 1 && areSteps(set));
        state(rights.size() < 6);
        rights.add(members(set));
        return rights.size() - 1;
    }

    int stock(int item, int many) {
        index(item >= 0 && item <= 3);
        argument(many >= 1 && many <= 20);
        return stock[item] += many;
    }

    int order(int item, int many, int day) {
        index(item >= 0 && item <= 3);
        argument(many >= 1 && many <= 20 && day > today && day <= 199);
        state(orders.size() < 20);
        Order order = new Order();
        order.item = item;
        order.many = many;
        order.day = day;
        orders.add(order);
        return orders.size() - 1;
    }

    int late(int order, int days) {
        index(order >= 0 && order < orders.size());
        argument(days >= 1 && days <= 30);
        state(orders.get(order).day > today);
        return orders.get(order).day += days;
    }

    int session(int step, int day, int seats) {
        index(step >= 0 && step < steps.size());
        argument(steps.get(step).kind == 2 && day > today && day <= 199 && seats >= 1 && seats <= 9);
        state(sessions.size() < 20);
        Session session = new Session();
        session.course = step;
        session.day = day;
        session.seats = seats;
        sessions.add(session);
        bookAll();
        return sessions.size() - 1;
    }

    int seatsBooked(int session) {
        int count = 0;
        for (Person person : people) {
            for (Task task : person.tasks) {
                count += task.session == session ? 1 : 0;
            }
        }
        return count;
    }

    int ofSession(int session, int what) {
        index(session >= 0 && session < sessions.size());
        argument(what >= 0 && what <= 3);
        Session asked = sessions.get(session);
        return new int[] {asked.course, asked.day, asked.seats, seatsBooked(session)}[what];
    }

    int ofItem(int item, int what) {
        index(item >= 0 && item <= 3);
        argument(what >= 0 && what <= 3);
        int pieces = 0;
        int first = -1;
        for (Order order : orders) {
            if (order.item == item && order.day > today) {
                pieces += order.many;
                first = first == -1 || order.day < first ? order.day : first;
            }
        }
        int waiting = 0;
        for (Person person : people) {
            for (Task task : person.tasks) {
                boolean isKit = task.step.kind == 1 && task.step.of == item;
                waiting += isKit && !person.left && ready(person, task) ? 1 : 0;
            }
        }
        return new int[] {stock[item], pieces, first, waiting}[what];
    }

    int join(int role, int start) {
        index(role >= 0 && role <= 3);
        argument(start > today && start <= 199);
        state(people.size() < 8 && !roles.get(role).isEmpty());
        Person person = new Person();
        person.start = start;
        for (int number : roles.get(role)) {
            Task task = new Task();
            task.step = steps.get(number);
            person.tasks.add(task);
        }
        people.add(person);
        bookAll();
        return people.size() - 1;
    }

    int leave(int joiner) {
        index(joiner >= 0 && joiner < people.size());
        Person person = people.get(joiner);
        state(!person.left);
        person.left = true;
        int toTakeBack = 0;
        for (Task task : person.tasks) {
            if (task.state == 0) {
                task.session = -1;
            } else {
                toTakeBack++;
            }
        }
        bookAll();
        return toTakeBack;
    }

    int day() {
        state(today < 199);
        today++;
        for (Order order : orders) {
            stock[order.item] += order.day == today ? order.many : 0;
        }
        int done = 0;
        for (Person person : people) {
            for (Task task : person.tasks) {
                if (!person.left && task.state == 1 && task.began + task.length == today) {
                    task.state = 2;
                    done++;
                }
            }
        }
        for (Person person : people) {
            for (Task task : person.tasks) {
                if (!person.left && ready(person, task)) {
                    tryToBegin(person, task);
                }
            }
        }
        for (Person person : people) {
            for (Task task : person.tasks) {
                if (task.state == 0 && task.session != -1 && sessions.get(task.session).day == today) {
                    task.session = -1;
                    task.lost++;
                }
            }
        }
        bookAll();
        for (Person person : people) {
            if (person.left) {
                takeBack(person);
            }
        }
        return done;
    }

    void tryToBegin(Person person, Task task) {
        if (task.step.kind == 1 && stock[task.step.of] == 0) {
            return;
        }
        if (task.step.kind == 2 && (task.session == -1 || sessions.get(task.session).day != today)) {
            return;
        }
        if (task.step.kind == 1) {
            stock[task.step.of]--;
        }
        task.length = length(person, task);
        task.began = today;
        task.state = 1;
    }

    void takeBack(Person person) {
        Task last = null;
        for (Task task : person.tasks) {
            if ((task.state == 1 || task.state == 2) && (last == null || task.began >= last.began)) {
                last = task;
            }
        }
        if (last != null) {
            last.state = 3;
            if (last.step.kind == 1) {
                stock[last.step.of]++;
            }
        }
    }

    boolean needsDone(Person person, Task task) {
        for (int need : task.step.needs) {
            Task needed = person.task(need);
            if (needed != null && needed.state != 2) {
                return false;
            }
        }
        return true;
    }

    boolean ready(Person person, Task task) {
        return task.state == 0 && person.start <= today && needsDone(person, task);
    }

    int length(Person person, Task task) {
        if (task.state != 0) {
            return task.length;
        }
        if (task.step.kind != 0) {
            return task.step.length;
        }
        Set<Integer> fields = members(task.step.of);
        for (Task other : person.tasks) {
            if (other != task && other.step.kind == 0 && other.state == 2) {
                fields.removeAll(members(other.step.of));
            }
        }
        return task.step.length + (fields.size() + 1) / 2;
    }

    Integer expected(Person person, Task task, Order late, int days) {
        if (task.state != 0) {
            return task.began;
        }
        int begin = Math.max(today + 1, person.start);
        for (int need : task.step.needs) {
            Task needed = person.task(need);
            if (needed != null) {
                Integer end = expectedEnd(person, needed, late, days);
                if (end == UNKNOWN) {
                    return UNKNOWN;
                }
                begin = Math.max(begin, end + 1);
            }
        }
        if (task.step.kind == 2 && task.session != -1) {
            begin = Math.max(begin, sessions.get(task.session).day);
        }
        if (task.step.kind == 1 && stock[task.step.of] == 0) {
            Integer first = UNKNOWN;
            for (Order order : orders) {
                if (order.item == task.step.of && order.day > today) {
                    int comes = order.day + (order == late ? days : 0);
                    first = first == UNKNOWN || comes < first ? Integer.valueOf(comes) : first;
                }
            }
            if (first == UNKNOWN) {
                return UNKNOWN;
            }
            begin = Math.max(begin, first);
        }
        return begin;
    }

    Integer expectedEnd(Person person, Task task, Order late, int days) {
        Integer begin = expected(person, task, late, days);
        return begin == UNKNOWN ? UNKNOWN : Integer.valueOf(begin + length(person, task) - 1);
    }

    void bookAll() {
        for (Person person : people) {
            for (Task task : person.tasks) {
                if (!person.left && task.step.kind == 2 && task.state == 0 && task.session == -1) {
                    task.session = bestSession(task.step.number, expected(person, task, null, 0));
                }
            }
        }
    }

    int bestSession(int course, Integer begin) {
        for (int day = 0; begin != UNKNOWN && day <= 199; day++) {
            for (int s = 0; s < sessions.size(); s++) {
                Session session = sessions.get(s);
                if (session.course == course && session.day == day && day >= begin
                        && seatsBooked(s) < session.seats) {
                    return s;
                }
            }
        }
        return -1;
    }

    Person person(int joiner) {
        index(joiner >= 0 && joiner < people.size());
        return people.get(joiner);
    }

    Task task(Person person, int step) {
        Task task = person.task(step);
        index(task != null);
        return task;
    }

    int ofStep(int joiner, int step, int what) {
        Person person = person(joiner);
        Task task = task(person, step);
        argument(what >= 0 && what <= 5);
        Integer begin = person.left ? UNKNOWN : expected(person, task, null, 0);
        Integer end = person.left ? UNKNOWN : expectedEnd(person, task, null, 0);
        return new int[] {task.state, begin == UNKNOWN ? -1 : begin, end == UNKNOWN ? -1 : end,
            task.session, length(person, task), task.lost}[what];
    }

    int greatestEnd(Person person, Order late, int days) {
        int greatest = -1;
        for (Task task : person.tasks) {
            Integer end = expectedEnd(person, task, late, days);
            if (end == UNKNOWN || person.left) {
                return -1;
            }
            greatest = Math.max(greatest, end);
        }
        return greatest;
    }

    int tasksIn(Person person, int state) {
        int count = 0;
        for (Task task : person.tasks) {
            count += task.state == state ? 1 : 0;
        }
        return count;
    }

    Set<Integer> rightsOf(Person person) {
        Set<Integer> held = new TreeSet<>();
        for (int r = 0; r < rights.size(); r++) {
            boolean all = true;
            for (int step : rights.get(r)) {
                all = all && person.task(step) != null && person.task(step).state == 2;
            }
            if (all) {
                held.add(r);
            }
        }
        return held;
    }

    int ofJoiner(int joiner, int what) {
        Person person = person(joiner);
        argument(what >= 0 && what <= 6);
        Set<Integer> own = new TreeSet<>();
        for (Task task : person.tasks) {
            own.add(task.step.number);
        }
        return new int[] {told(own), person.start, tasksIn(person, 2), tasksIn(person, 1),
            told(rightsOf(person)), person.left ? 1 : 0, greatestEnd(person, null, 0)}[what];
    }

    int many(int what) {
        argument(what >= 0 && what <= 10);
        int left = 0;
        int done = 0;
        int running = 0;
        int held = 0;
        int seats = 0;
        for (Person person : people) {
            left += person.left ? 1 : 0;
            done += tasksIn(person, 2);
            running += tasksIn(person, 1);
            held += rightsOf(person).size();
            for (Task task : person.tasks) {
                seats += task.session != -1 ? 1 : 0;
            }
        }
        return new int[] {steps.size(), rights.size(), orders.size(), sessions.size(), people.size(),
            left, done, running, held, seats, today}[what];
    }

    double meanDays() {
        double sum = 0;
        int known = 0;
        for (Person person : people) {
            int end = greatestEnd(person, null, 0);
            if (end != -1) {
                sum += end - person.start;
                known++;
            }
        }
        return known == 0 ? 0 : sum / known;
    }

    int rightOn(int joiner, int right) {
        Person person = person(joiner);
        index(right >= 0 && right < rights.size());
        int greatest = -1;
        for (int step : rights.get(right)) {
            Task task = person.task(step);
            if (person.left || task == null || expectedEnd(person, task, null, 0) == UNKNOWN) {
                return -1;
            }
            greatest = Math.max(greatest, expectedEnd(person, task, null, 0));
        }
        return greatest + 1;
    }

    int shiftBy(int order, int days) {
        index(order >= 0 && order < orders.size());
        argument(days >= 1 && days <= 30);
        state(orders.get(order).day > today);
        int sum = 0;
        for (Person person : people) {
            int now = greatestEnd(person, null, 0);
            int then = greatestEnd(person, orders.get(order), days);
            sum += now == -1 || then == -1 ? 0 : then - now;
        }
        return sum;
    }

    int next(int joiner) {
        Person person = person(joiner);
        for (Task task : person.tasks) {
            if (!person.left && task.state <= 1 && needsDone(person, task)) {
                return task.step.number;
            }
        }
        return -1;
    }

    boolean reaches(Person person, Task from, int step) {
        for (int need : from.step.needs) {
            Task needed = person.task(need);
            if (needed != null && (need == step || reaches(person, needed, step))) {
                return true;
            }
        }
        return false;
    }

    int waitFor(int joiner, int step) {
        Person person = person(joiner);
        task(person, step);
        int count = 0;
        for (Task task : person.tasks) {
            count += task.state != 2 && reaches(person, task, step) ? 1 : 0;
        }
        return count;
    }
}
