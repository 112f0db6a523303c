/-! all cells are made: the worlds of the methods -/
abbrev gTt (G : gG) : Nat := (gOrd G.1).length
theorem gKs_all {G : gG} : gKs G (gTt G) = gOrd G.1 := List.take_length
theorem gm_in {G : gG} {k : gK} (h : k ∈ gOrd G.1) : k ∈ gKs G (gTt G) := by rw [gKs_all]; exact h
theorem gm_G {G : gG} : ((0, 0, 0) : gK) ∈ gKs G (gTt G) := gm_in (by simp [gOrd])
theorem gm_F {G : gG} : ((3, 0, 0) : gK) ∈ gKs G (gTt G) := gm_in (by simp [gOrd])
theorem gm_Z {G : gG} : ((20, 0, 0) : gK) ∈ gKs G (gTt G) := gm_in (by simp [gOrd])
theorem gm_ns {G : gG} : ((1, 0, 0) : gK) ∈ gKs G (gTt G) := gm_in (by simp [gOrd])
theorem gm_cf {G : gG} : ((2, 0, 0) : gK) ∈ gKs G (gTt G) := gm_in (by simp [gOrd])
theorem gm_w {G : gG} {b : Nat} (h : b < 2) : ((4, b, 0) : gK) ∈ gKs G (gTt G) := gm_in (by
  have : b = 0 ∨ b = 1 := by omega
  rcases this with rfl | rfl <;> simp [gOrd])
theorem gm_M {G : gG} {a : Nat} (h : a < 121) : ((5, a, 0) : gK) ∈ gKs G (gTt G) := gm_in (by
  simp only [gOrd, List.mem_append]
  by_cases h1 : a = 120
  · subst h1; simp
  · refine Or.inl (Or.inl (Or.inl (Or.inl (Or.inr (List.mem_flatMap.mpr ?_)))))
    by_cases h2 : a < 60
    · exact ⟨a, List.mem_range.mpr h2, by simp⟩
    · refine ⟨a - 60, List.mem_range.mpr (by omega), ?_⟩
      have : 60 + (a - 60) = a := by omega
      simp [this])
theorem gm_nw {G : gG} {a : Nat} (h : a < 121) : ((6, a, 0) : gK) ∈ gKs G (gTt G) := gm_in (by
  simp only [gOrd, List.mem_append]
  by_cases h1 : a = 120
  · subst h1; simp
  · refine Or.inl (Or.inl (Or.inl (Or.inl (Or.inr (List.mem_flatMap.mpr ?_)))))
    by_cases h2 : a < 60
    · exact ⟨a, List.mem_range.mpr h2, by simp⟩
    · refine ⟨a - 60, List.mem_range.mpr (by omega), ?_⟩
      have : 60 + (a - 60) = a := by omega
      simp [this])
theorem gm_node {G : gG} {i : Nat} {k : gK} (hi : i < G.1) (h : k ∈ gNodeKs G.1 i) : k ∈ gKs G (gTt G) := gm_in (by
  simp only [gOrd, List.mem_append]
  exact Or.inl (Or.inl (Or.inr (List.mem_flatMap.mpr ⟨i, List.mem_range.mpr hi, h⟩))))
theorem gm_N {G : gG} {i : Nat} (hi : i < G.1) : ((7, i, 0) : gK) ∈ gKs G (gTt G) := gm_node hi (by simp [gNodeKs])
theorem gm_tb {G : gG} {i : Nat} (hi : i < G.1) : ((8, i, 0) : gK) ∈ gKs G (gTt G) := gm_node hi (by simp [gNodeKs])
theorem gm_rs {G : gG} {i : Nat} (hi : i < G.1) : ((10, i, 0) : gK) ∈ gKs G (gTt G) := gm_node hi (by simp [gNodeKs])
theorem gm_E {G : gG} {i j : Nat} (hi : i < G.1) (hj : j < G.1) : ((9, i, j) : gK) ∈ gKs G (gTt G) := gm_node hi (by simp [gNodeKs, hj])
theorem gm_R {G : gG} {i r : Nat} (hi : i < G.1) (hr : r < 4) : ((11, i, r) : gK) ∈ gKs G (gTt G) := gm_node hi (by simp [gNodeKs, hr])
theorem gm_za {G : gG} {k : Nat} (h1 : 21 ≤ k) (h2 : k < 46) : ((k, 0, 0) : gK) ∈ gKs G (gTt G) := gm_in (by
  simp only [gOrd, List.mem_append]
  refine Or.inr (List.mem_map.mpr ⟨k - 21, List.mem_range.mpr (by omega), ?_⟩)
  have : 21 + (k - 21) = k := by omega
  rw [this])
/-- references that never change -/
def gStat (k : gK) (f : Nat) : Option gK := match k.1 with
  | 0 => match f with
    | 1 => some (1, 0, 0)
    | 2 => some (2, 0, 0)
    | 3 => some (3, 0, 0)
    | _ => none
  | 1 => some (7, f, 0)
  | 3 => match f with
    | 2 => some (5, 120, 0)
    | _ => none
  | 5 => match f with
    | 7 => some (6, k.2.1, 0)
    | _ => none
  | 7 => match f with
    | 2 => some (3, 0, 0)
    | 3 => some (8, k.2.1, 0)
    | 4 => some (10, k.2.1, 0)
    | _ => none
  | 8 => some (9, k.2.1, f)
  | 20 => match f with
    | 3 => some (21, 0, 0)
    | 4 => some (22, 0, 0)
    | 5 => some (23, 0, 0)
    | 6 => some (24, 0, 0)
    | 7 => some (25, 0, 0)
    | 8 => some (26, 0, 0)
    | 9 => some (27, 0, 0)
    | 10 => some (28, 0, 0)
    | 11 => some (29, 0, 0)
    | 12 => some (30, 0, 0)
    | 13 => some (31, 0, 0)
    | 14 => some (32, 0, 0)
    | 15 => some (33, 0, 0)
    | 16 => some (34, 0, 0)
    | 17 => some (35, 0, 0)
    | 18 => some (36, 0, 0)
    | 19 => some (37, 0, 0)
    | 20 => some (38, 0, 0)
    | 21 => some (39, 0, 0)
    | 22 => some (40, 0, 0)
    | 23 => some (41, 0, 0)
    | 24 => some (42, 0, 0)
    | 25 => some (43, 0, 0)
    | 26 => some (44, 0, 0)
    | 27 => some (45, 0, 0)
    | _ => none
  | _ => none
/-- the world between calls: how many nodes, and the references that never change -/
def gSt (G : gG) (S : gS) : Prop := ∀ (k : gK) (f : Nat) (k' : gK), gStat k f = some k' → S.2 k f = some k'
/-- a loop that counts up -/
theorem g_upto {P : Nat → Prop} {n : Nat} (hn : P n) (hs : ∀ k, k < n → P (k + 1) → P k) : ∀ k, k ≤ n → P k := by
  intro k hk
  have h : ∀ j, j ≤ n → P (n - j) := by
    intro j
    induction j with
    | zero => intro _; exact hn
    | succ j ih =>
      intro hj
      have := ih (by omega)
      refine hs (n - (j + 1)) (by omega) ?_
      have e : n - (j + 1) + 1 = n - j := by omega
      rw [e]; exact this
  have := h (n - k) (by omega)
  have e : n - (n - k) = k := by omega
  rwa [e] at this
