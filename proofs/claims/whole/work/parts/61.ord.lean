/-! where a cell stands in the order -/
theorem fm_get {c : Nat} {f : Nat → List gK} (hc : ∀ x, (f x).length = c) : ∀ {l : List Nat} {i j : Nat}, i < l.length → j < c → (l.flatMap f)[c * i + j]? = (f (l.getD i 0))[j]?
  | [], i, j, h, _ => by cases h
  | x :: l, 0, j, h, hj => by
    rw [List.flatMap_cons, List.getElem?_append_left (by rw [hc]; omega), Nat.mul_zero, Nat.zero_add]; rfl
  | x :: l, i + 1, j, h, hj => by
    rw [List.flatMap_cons, List.getElem?_append_right (by rw [hc, Nat.mul_succ]; omega), hc, show c * (i + 1) + j - c = c * i + j by rw [Nat.mul_succ]; omega, fm_get hc (by simpa using h) hj]
    rfl
theorem fm_len {c : Nat} {f : Nat → List gK} (hc : ∀ x, (f x).length = c) : ∀ {l : List Nat}, (l.flatMap f).length = c * l.length
  | [] => rfl
  | x :: l => by rw [List.flatMap_cons, List.length_append, fm_len hc, hc, List.length_cons, Nat.mul_succ]; omega
theorem range_getD {n i : Nat} (h : i < n) : (List.range n).getD i 0 = i := by
  rw [List.getD_eq_getElem?_getD, List.getElem?_range h]; rfl
def gMs (i : Nat) : List gK := [(5, i, 0), (6, i, 0), (5, 60 + i, 0), (6, 60 + i, 0)]
theorem gOrd_eq (n : Nat) : gOrd n = [(0, 0, 0), (3, 0, 0), (4, 0, 0), (4, 1, 0), (5, 120, 0), (6, 120, 0)] ++ ((List.range 60).flatMap gMs ++ ([(2, 0, 0), (1, 0, 0)] ++ ((List.range n).flatMap (gNodeKs n) ++ ([(20, 0, 0)] ++ (List.range 25).map (fun k => (21 + k, 0, 0)))))) := by
  unfold gOrd
  simp only [List.append_assoc]
  rfl
theorem gMs_len : ((List.range 60).flatMap gMs).length = 240 := (fm_len (c := 4) (fun _ => rfl)).trans (by rw [List.length_range])
theorem gNd_len (n x : Nat) : (gNodeKs n x).length = n + 7 := by simp [gNodeKs]
theorem gNs_len (n : Nat) : ((List.range n).flatMap (gNodeKs n)).length = (n + 7) * n := (fm_len (gNd_len n)).trans (by rw [List.length_range])
theorem go_hd {n p : Nat} (h : p < 6) : (gOrd n)[p]? = ([(0, 0, 0), (3, 0, 0), (4, 0, 0), (4, 1, 0), (5, 120, 0), (6, 120, 0)] : List gK)[p]? := by
  rw [gOrd_eq, List.getElem?_append_left (by simpa using h)]
theorem go_msg {n i j : Nat} (hi : i < 60) (hj : j < 4) : (gOrd n)[6 + 4 * i + j]? = (gMs i)[j]? := by
  rw [gOrd_eq, List.getElem?_append_right (by simp only [List.length_cons, List.length_nil]; omega), List.getElem?_append_left (by rw [gMs_len]; simp only [List.length_cons, List.length_nil]; omega)]
  simp only [List.length_cons, List.length_nil]
  rw [show 6 + 4 * i + j - (0 + 1 + 1 + 1 + 1 + 1 + 1) = 4 * i + j by omega, fm_get (c := 4) (f := gMs) (fun _ => rfl) (by rw [List.length_range]; exact hi) hj, range_getD hi]
theorem go_2 {n j : Nat} (hj : j < 2) : (gOrd n)[246 + j]? = ([(2, 0, 0), (1, 0, 0)] : List gK)[j]? := by
  rw [gOrd_eq, List.getElem?_append_right (by simp only [List.length_cons, List.length_nil]; omega), List.getElem?_append_right (by rw [gMs_len]; simp only [List.length_cons, List.length_nil]; omega), gMs_len, List.getElem?_append_left (by simp only [List.length_cons, List.length_nil]; omega)]
  simp only [List.length_cons, List.length_nil]
  rw [show 246 + j - (0 + 1 + 1 + 1 + 1 + 1 + 1) - 240 = j by omega]
theorem go_node {n i j : Nat} (hi : i < n) (hj : j < n + 7) : (gOrd n)[248 + (n + 7) * i + j]? = (gNodeKs n i)[j]? := by
  have hm : (n + 7) * i + j < (n + 7) * n := by
    have : (n + 7) * (i + 1) ≤ (n + 7) * n := Nat.mul_le_mul_left _ hi
    rw [Nat.mul_succ] at this; omega
  rw [gOrd_eq, List.getElem?_append_right (by simp only [List.length_cons, List.length_nil]; omega), List.getElem?_append_right (by rw [gMs_len]; simp only [List.length_cons, List.length_nil]; omega), gMs_len, List.getElem?_append_right (by simp only [List.length_cons, List.length_nil]; omega)]
  simp only [List.length_cons, List.length_nil]
  rw [show 248 + (n + 7) * i + j - (0 + 1 + 1 + 1 + 1 + 1 + 1) - 240 - (0 + 1 + 1) = (n + 7) * i + j by omega, List.getElem?_append_left (by rw [gNs_len]; exact hm), fm_get (gNd_len n) (by rw [List.length_range]; exact hi) hj, range_getD hi]
theorem go_z {n j : Nat} (hj : j < 26) : (gOrd n)[248 + (n + 7) * n + j]? = ([(20, 0, 0)] ++ (List.range 25).map (fun k => (21 + k, 0, 0)) : List gK)[j]? := by
  rw [gOrd_eq, List.getElem?_append_right (by simp only [List.length_cons, List.length_nil]; omega), List.getElem?_append_right (by rw [gMs_len]; simp only [List.length_cons, List.length_nil]; omega), gMs_len, List.getElem?_append_right (by simp only [List.length_cons, List.length_nil]; omega)]
  simp only [List.length_cons, List.length_nil]
  rw [show 248 + (n + 7) * n + j - (0 + 1 + 1 + 1 + 1 + 1 + 1) - 240 - (0 + 1 + 1) = (n + 7) * n + j by omega, List.getElem?_append_right (by rw [gNs_len]; omega), gNs_len, show (n + 7) * n + j - (n + 7) * n = j by omega]
theorem gn_e {n i j : Nat} (hj : j < n) : (gNodeKs n i)[3 + j]? = some (9, i, j) := by
  unfold gNodeKs
  rw [List.getElem?_append_left (by simp only [List.length_append, List.length_cons, List.length_nil, List.length_map, List.length_range]; omega), List.getElem?_append_right (by simp only [List.length_cons, List.length_nil]; omega), show 3 + j - ([(7, i, 0), (10, i, 0), (8, i, 0)] : List gK).length = j by simp only [List.length_cons, List.length_nil]; omega, List.getElem?_map, List.getElem?_range hj]; rfl
theorem gn_r {n i r : Nat} (hr : r < 4) : (gNodeKs n i)[3 + n + r]? = some (11, i, r) := by
  unfold gNodeKs
  rw [List.getElem?_append_right (by simp only [List.length_append, List.length_cons, List.length_nil, List.length_map, List.length_range]; omega)]
  simp only [List.length_append, List.length_cons, List.length_nil, List.length_map, List.length_range]
  rw [show 3 + n + r - (0 + 1 + 1 + 1 + n) = r by omega, List.getElem?_map, List.getElem?_range hr]; rfl
theorem gOrd_len {n : Nat} : (gOrd n).length = 274 + (n + 7) * n := by
  rw [gOrd_eq]
  simp only [List.length_append, gMs_len, gNs_len, List.length_cons, List.length_nil, List.length_map, List.length_range]
  omega
def gPos (n : Nat) (k : gK) : Nat := match k.1 with
  | 0 => 0
  | 1 => 247
  | 2 => 246
  | 3 => 1
  | 4 => 2 + k.2.1
  | 5 => if k.2.1 = 120 then 4 else if k.2.1 < 60 then 6 + 4 * k.2.1 else 6 + 4 * (k.2.1 - 60) + 2
  | 6 => if k.2.1 = 120 then 5 else if k.2.1 < 60 then 6 + 4 * k.2.1 + 1 else 6 + 4 * (k.2.1 - 60) + 3
  | 7 => 248 + (n + 7) * k.2.1
  | 8 => 248 + (n + 7) * k.2.1 + 2
  | 9 => 248 + (n + 7) * k.2.1 + 3 + k.2.2
  | 10 => 248 + (n + 7) * k.2.1 + 1
  | 11 => 248 + (n + 7) * k.2.1 + 3 + n + k.2.2
  | m => 248 + (n + 7) * n + (m - 20)
theorem gOrd_pos : ∀ n, n < 9 → (gOrd n).map (gPos n) = List.range (gOrd n).length := by decide +kernel
theorem gOrd_nd {n : Nat} (h : n < 9) : (gOrd n).Nodup := by
  have e := gOrd_pos n h
  have hn : ((gOrd n).map (gPos n)).Nodup := by rw [e]; exact List.nodup_range
  exact List.Pairwise.of_map (gPos n) (fun a b h e => h (congrArg _ e)) hn
theorem gKs_mono {G : gG} {t t' : Nat} {k : gK} (h : k ∈ gKs G t) (ht : t ≤ t') : k ∈ gKs G t' := by
  obtain ⟨i, hi⟩ := List.getElem?_of_mem h
  unfold gKs at hi ⊢
  have hl : i < t := by
    have := (List.getElem?_eq_some_iff.mp hi).1
    rw [List.length_take] at this; omega
  rw [List.getElem?_take_of_lt hl] at hi
  exact List.mem_of_getElem? (i := i) (by rw [List.getElem?_take_of_lt (by omega)]; exact hi)
