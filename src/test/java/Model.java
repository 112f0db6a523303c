import java.util.ArrayList;
import java.util.List;
import java.util.TreeMap;
import java.util.TreeSet;

/**
 * The document a second time, told with collections and with nothing used again: messages and
 * news are made anew, the queue holds its own copies, confirmations are sets. The comparison finds
 * what the rows that GossipNodes uses again, and its shortcuts, might get wrong.
 */
final class Model {
    private record News(int node, int state, int incarnation) {
        boolean greaterThan(News other) {
            return other == null || incarnation > other.incarnation
                    || incarnation == other.incarnation && state > other.state;
        }
    }

    private record Mail(int kind, int from, int to, int number, int origin, int target, List<News> news) {
    }

    private record Errand(int number, int origin, int target, int noted) {
    }

    private static final class Probe {
        int number;
        int target;
        int clock;
        boolean answered;
        int asked;
        int nacks;
    }

    private final class Member {
        final int id;
        final int began = now;
        final TreeMap<Integer, News> table = new TreeMap<>();
        final TreeMap<Integer, Integer> since = new TreeMap<>();
        final TreeMap<Integer, TreeSet<Integer>> confirmed = new TreeMap<>();
        final TreeMap<Integer, News> queue = new TreeMap<>();
        final TreeMap<Integer, Integer> left = new TreeMap<>();
        List<Errand> errands = new ArrayList<>();
        int score = 0;
        int probes = 0;
        int rest = 2;
        int lastProbed;
        int lastSynced;
        Probe probe = null;

        Member(int id) {
            this.id = id;
            lastProbed = id;
            lastSynced = id;
            set(new News(id, 1, 0));
        }

        int state(int m) {
            return table.containsKey(m) ? table.get(m).state : 0;
        }

        void set(News news) {
            table.put(news.node, news);
            since.put(news.node, now);
            confirmed.remove(news.node);
            announce(news);
        }

        void suspect(News news, int by) {
            set(news);
            confirmed.put(news.node, new TreeSet<>(List.of(by)));
        }

        void announce(News news) {
            queue.put(news.node, news);
            left.put(news.node, 4);
        }

        void send(int kind, int to, int number, int origin, int target) {
            List<News> news = kind >= 6 ? new ArrayList<>(table.values()) : fromQueue();
            if (mails.size() < 60) {
                mails.add(new Mail(kind, id, to, number, origin, target, news));
            }
        }

        List<News> fromQueue() {
            List<Integer> order = new ArrayList<>(queue.keySet());
            order.sort((a, b) -> left.get(a).equals(left.get(b)) ? a - b : left.get(b) - left.get(a));
            List<News> taken = new ArrayList<>();
            for (int m : order.subList(0, Math.min(3, order.size()))) {
                taken.add(queue.get(m));
                left.merge(m, -1, Integer::sum);
                if (left.get(m) == 0) {
                    left.remove(m);
                    queue.remove(m);
                }
            }
            return taken;
        }

        void arrive(Mail mail) {
            mail.news.forEach(news -> learn(news, mail.from));
            int number = mail.number;
            int origin = mail.origin;
            int target = mail.target;
            boolean ofProbe = probe != null && probe.number == number;
            if (mail.kind == 1) {
                send(2, mail.from, number, origin, target);
            } else if (mail.kind == 2 && origin == id) {
                if (ofProbe) {
                    probe.answered = true;
                }
            } else if (mail.kind == 2) {
                for (Errand e : errands) {
                    if (e.number == number && e.origin == origin && e.target == target) {
                        errands.remove(e);
                        send(2, origin, number, origin, target);
                        break;
                    }
                }
            } else if (mail.kind == 3 && errands.size() < 4) {
                errands.add(new Errand(number, origin, target, now));
                send(1, target, number, origin, target);
            } else if (mail.kind == 4 && ofProbe) {
                probe.nacks++;
            } else if (mail.kind == 6) {
                send(7, mail.from, 0, 0, 0);
            }
        }

        void learn(News news, int from) {
            News own = table.get(id);
            News held = table.get(news.node);
            if (news.node == id) {
                if (news.state == 1) {
                    return;
                }
                if (news.incarnation >= own.incarnation) {
                    set(new News(id, 1, news.incarnation + 1));
                    score = Math.min(4, score + 1);
                }
                announce(table.get(id));
            } else if (news.greaterThan(held)) {
                if (news.state == 2) {
                    suspect(news, from);
                } else {
                    set(news);
                }
            } else if (news.equals(held) && news.state == 2) {
                confirmed.get(news.node).add(from);
            }
        }

        void timer() {
            List<Errand> all = errands;
            // An errand is noted before the timer of its tick, which already makes it one older.
            errands = new ArrayList<>(all.stream().filter(e -> now - e.noted + 1 < 3).toList());
            all.stream().filter(e -> now - e.noted + 1 >= 3)
                    .forEach(e -> send(4, e.origin, e.number, e.origin, e.target));
            for (int m = 0; m < count; m++) {
                if (m != id && state(m) == 2
                        && now - since.get(m) >= new int[] {24, 18, 12, 6}[Math.min(3, confirmed.get(m).size())]) {
                    set(new News(m, 3, table.get(m).incarnation));
                }
            }
            if (probe == null) {
                rest--;
                if (rest == 0) {
                    beginProbe();
                }
            } else {
                goOn();
            }
            if ((now - began) % 20 == 0) {
                for (int m : round(lastSynced)) {
                    if (state(m) == 1) {
                        lastSynced = m;
                        send(6, m, 0, 0, 0);
                        break;
                    }
                }
            }
        }

        /** The others behind one, in the round, that one itself last. */
        List<Integer> round(int behind) {
            List<Integer> others = new ArrayList<>();
            for (int m = behind + 1; m < count; m++) {
                others.add(m);
            }
            for (int m = 0; m <= behind; m++) {
                others.add(m);
            }
            others.remove((Integer) id);
            return others;
        }

        void beginProbe() {
            rest = 3;
            for (int m : round(lastProbed)) {
                if (state(m) == 1 || state(m) == 2) {
                    rest = 0;
                    lastProbed = m;
                    probe = new Probe();
                    probe.number = ++probes;
                    probe.target = m;
                    send(1, m, probes, id, m);
                    return;
                }
            }
        }

        void goOn() {
            int target = probe.target;
            probe.clock++;
            if (probe.clock == 3 && !probe.answered) {
                for (int m : round(target)) {
                    if (probe.asked < 2 && m != target && state(m) == 1) {
                        probe.asked++;
                        send(3, m, probe.number, id, target);
                    }
                }
            }
            if (probe.clock < 8) {
                return;
            }
            if (probe.answered) {
                score = score == 0 ? 0 : score - 1;
            } else {
                int silent = probe.asked > probe.nacks ? probe.asked - probe.nacks : 0;
                score = Math.min(4, score + (probe.asked == 0 ? 1 : silent));
                if (state(target) == 1) {
                    suspect(new News(target, 2, table.get(target).incarnation), id);
                }
            }
            probe = null;
            rest = 1 + score;
        }
    }

    private final int count;
    private final Member[] members;
    private final TreeSet<String> cuts = new TreeSet<>();
    private List<Mail> mails = new ArrayList<>();
    private int now = 0;

    Model(int n) {
        count = n < 2 ? 2 : n > 8 ? 8 : n;
        members = new Member[count];
    }

    private boolean is(int node) {
        return node >= 0 && node < count;
    }

    private boolean runs(int node) {
        return is(node) && members[node] != null;
    }

    private static String pair(int a, int b) {
        return Math.min(a, b) + "-" + Math.max(a, b);
    }

    boolean start(int node, int by) {
        if (!is(node) || !is(by) || runs(node)) {
            return false;
        }
        members[node] = new Member(node);
        if (by != node) {
            members[node].send(6, by, 0, 0, 0);
        }
        return true;
    }

    boolean crash(int node) {
        boolean was = runs(node);
        if (was) {
            members[node] = null;
        }
        return was;
    }

    boolean leave(int node) {
        if (!runs(node)) {
            return false;
        }
        Member leaver = members[node];
        leaver.announce(new News(node, 3, leaver.table.get(node).incarnation));
        for (int m = 0; m < count; m++) {
            if (m != node && leaver.state(m) == 1) {
                leaver.send(5, m, 0, 0, 0);
            }
        }
        return crash(node);
    }

    boolean cut(int a, int b, boolean is) {
        if (!is(a) || !is(b) || a == b) {
            return false;
        }
        return is ? cuts.add(pair(a, b)) : cuts.remove(pair(a, b));
    }

    boolean drop(int k) {
        return k >= 0 && k < mails.size() && mails.remove(k) != null;
    }

    boolean swap(int k) {
        if (k < 0 || k + 1L >= mails.size()) {
            return false;
        }
        mails.add(k + 1, mails.remove(k));
        return true;
    }

    int ticks(int n) {
        if (n < 0 || n > 100) {
            return -1;
        }
        int came = 0;
        for (int t = 0; t < n; t++) {
            now++;
            List<Mail> due = mails;
            mails = new ArrayList<>();
            for (Mail mail : due) {
                if (runs(mail.to) && !cuts.contains(pair(mail.from, mail.to))) {
                    came++;
                    members[mail.to].arrive(mail);
                }
            }
            for (Member member : members) {
                if (member != null) {
                    member.timer();
                }
            }
        }
        return came;
    }

    int now() {
        return now;
    }

    int flight() {
        return mails.size();
    }

    int message(int k, int what) {
        if (k < 0 || k >= mails.size() || what < 0) {
            return 0;
        }
        Mail mail = mails.get(k);
        List<Integer> all = new ArrayList<>(List.of(mail.kind, mail.from, mail.to, mail.number, mail.origin,
                mail.target, mail.news.size()));
        mail.news.forEach(news -> all.addAll(List.of(news.node, news.state, news.incarnation)));
        return what < all.size() ? all.get(what) : 0;
    }

    int view(int node, int member, int what) {
        if (!runs(node)) {
            return -1;
        }
        Member viewer = members[node];
        if (viewer.state(member) == 0) {
            return 0;
        }
        return switch (what) {
            case 0 -> viewer.state(member);
            case 1 -> viewer.table.get(member).incarnation;
            case 2 -> viewer.since.get(member);
            case 3 -> viewer.state(member) == 2 ? viewer.confirmed.get(member).size() : 0;
            default -> 0;
        };
    }

    int node(int node, int what) {
        if (!is(node) || what < 0 || what > 9) {
            return -1;
        }
        if (!runs(node)) {
            return 0;
        }
        Member m = members[node];
        Probe p = m.probe;
        return switch (what) {
            case 0 -> 1;
            case 1 -> m.table.get(node).incarnation;
            case 2 -> m.score;
            case 3 -> p == null ? -1 : p.target;
            case 4 -> p == null ? 0 : p.clock;
            case 5 -> p != null && p.answered ? 1 : 0;
            case 6 -> m.probes;
            case 7 -> m.rest;
            case 8 -> m.queue.size();
            default -> m.errands.size();
        };
    }

    int queued(int node, int member) {
        return runs(node) ? members[node].left.getOrDefault(member, 0) : 0;
    }

    boolean agreed() {
        TreeSet<String> seen = new TreeSet<>();
        TreeSet<Integer> running = new TreeSet<>();
        for (Member member : members) {
            if (member == null) {
                continue;
            }
            running.add(member.id);
            TreeSet<String> alive = new TreeSet<>();
            for (News news : member.table.values()) {
                if (news.state == 2) {
                    return false;
                }
                if (news.state == 1) {
                    alive.add(news.node + ":" + news.incarnation);
                }
            }
            seen.add(String.join(" ", alive));
        }
        if (running.isEmpty()) {
            return true;
        }
        return seen.size() == 1 && aliveNodes(seen.first()).equals(running);
    }

    private static TreeSet<Integer> aliveNodes(String alive) {
        TreeSet<Integer> nodes = new TreeSet<>();
        for (String one : alive.split(" ")) {
            nodes.add(Integer.parseInt(one.substring(0, one.indexOf(':'))));
        }
        return nodes;
    }
}
