/-! the first state, once both systems are made -/
def S0 : gS := (fun _ _ => 0, fun _ _ => none)
def M0 : mM := (fun _ _ _ => 0, fun _ => [], [])
def sT (n : Nat) : gS := (fun k f => if k.1 = 0 ∧ f = 0 then nI n else if k.1 = 7 ∧ f = 0 then nI k.2.1 else if k.1 = 7 ∧ f = 1 then nI n else if k.1 = 20 ∧ f = 0 then nI n else 0,
  fun k f => if k.1 = 3 ∧ f = 0 then some (4, 0, 0) else if k.1 = 3 ∧ f = 1 then some (4, 1, 0) else if k.1 = 4 then some (5, 60 * k.2.1 + f, 0) else if k.1 = 10 then some (11, k.2.1, f) else gStat k f)
theorem sT_st {G : gG} {n : Nat} : gSt G (sT n) := by
  intro k f k' h
  show (if _ then _ else _) = _
  by_cases h3 : k.1 = 3 ∧ f = 0
  · unfold gStat at h; rw [h3.1, h3.2] at h; cases h
  by_cases h31 : k.1 = 3 ∧ f = 1
  · unfold gStat at h; rw [h31.1, h31.2] at h; cases h
  by_cases h4 : k.1 = 4
  · unfold gStat at h; rw [h4] at h; cases h
  by_cases h10 : k.1 = 10
  · unfold gStat at h; rw [h10] at h; cases h
  rw [if_neg h3, if_neg h31, if_neg h4, if_neg h10]; exact h
/-! which cells there are -/
def gIn (n : Nat) (k : gK) : Prop := k = (0, 0, 0) ∨ k = (3, 0, 0) ∨ k = (4, 0, 0) ∨ k = (4, 1, 0) ∨ (∃ a, a ≤ 120 ∧ k = (5, a, 0)) ∨ (∃ a, a ≤ 120 ∧ k = (6, a, 0)) ∨ k = (2, 0, 0) ∨ k = (1, 0, 0) ∨ (∃ i, i < n ∧ k = (7, i, 0)) ∨ (∃ i, i < n ∧ k = (10, i, 0)) ∨ (∃ i, i < n ∧ k = (8, i, 0)) ∨ (∃ i j, i < n ∧ j < n ∧ k = (9, i, j)) ∨ (∃ i r, i < n ∧ r < 4 ∧ k = (11, i, r)) ∨ k = (20, 0, 0) ∨ ∃ q, q < 25 ∧ k = (21 + q, 0, 0)
theorem gOrd_cs {n : Nat} {k : gK} (h : k ∈ gOrd n) : gIn n k := by
  rw [gOrd_eq] at h
  unfold gIn
  simp only [gMs, gNodeKs, List.mem_append, List.mem_cons, List.mem_flatMap, List.mem_map, List.mem_range, List.not_mem_nil, or_false] at h
  rcases h with (h | h | h | h | h | h) | ⟨a, ha, h | h | h | h⟩ | (h | h) | ⟨i, hi, ((h | h | h) | ⟨j, hj, h⟩) | ⟨r, hr, h⟩⟩ | h | ⟨q, hq, h⟩
  · exact Or.inl h
  · exact Or.inr (Or.inl h)
  · exact Or.inr (Or.inr (Or.inl h))
  · exact Or.inr (Or.inr (Or.inr (Or.inl h)))
  · exact Or.inr (Or.inr (Or.inr (Or.inr (Or.inl ⟨120, by omega, h⟩))))
  · exact Or.inr (Or.inr (Or.inr (Or.inr (Or.inr (Or.inl ⟨120, by omega, h⟩)))))
  · exact Or.inr (Or.inr (Or.inr (Or.inr (Or.inl ⟨a, by omega, h⟩))))
  · exact Or.inr (Or.inr (Or.inr (Or.inr (Or.inr (Or.inl ⟨a, by omega, h⟩)))))
  · exact Or.inr (Or.inr (Or.inr (Or.inr (Or.inl ⟨60 + a, by omega, h⟩))))
  · exact Or.inr (Or.inr (Or.inr (Or.inr (Or.inr (Or.inl ⟨60 + a, by omega, h⟩)))))
  · exact Or.inr (Or.inr (Or.inr (Or.inr (Or.inr (Or.inr (Or.inl h))))))
  · exact Or.inr (Or.inr (Or.inr (Or.inr (Or.inr (Or.inr (Or.inr (Or.inl h)))))))
  · exact Or.inr (Or.inr (Or.inr (Or.inr (Or.inr (Or.inr (Or.inr (Or.inr (Or.inl ⟨i, hi, h⟩))))))))
  · exact Or.inr (Or.inr (Or.inr (Or.inr (Or.inr (Or.inr (Or.inr (Or.inr (Or.inr (Or.inl ⟨i, hi, h⟩)))))))))
  · exact Or.inr (Or.inr (Or.inr (Or.inr (Or.inr (Or.inr (Or.inr (Or.inr (Or.inr (Or.inr (Or.inl ⟨i, hi, h⟩))))))))))
  · exact Or.inr (Or.inr (Or.inr (Or.inr (Or.inr (Or.inr (Or.inr (Or.inr (Or.inr (Or.inr (Or.inr (Or.inl ⟨i, j, hi, hj, h.symm⟩)))))))))))
  · exact Or.inr (Or.inr (Or.inr (Or.inr (Or.inr (Or.inr (Or.inr (Or.inr (Or.inr (Or.inr (Or.inr (Or.inr (Or.inl ⟨i, r, hi, hr, h.symm⟩))))))))))))
  · exact Or.inr (Or.inr (Or.inr (Or.inr (Or.inr (Or.inr (Or.inr (Or.inr (Or.inr (Or.inr (Or.inr (Or.inr (Or.inr (Or.inl h)))))))))))))
  · exact Or.inr (Or.inr (Or.inr (Or.inr (Or.inr (Or.inr (Or.inr (Or.inr (Or.inr (Or.inr (Or.inr (Or.inr (Or.inr (Or.inr ⟨q, hq, h.symm⟩)))))))))))))
theorem gOrd_99 {n b : Nat} : ((99, b, 0) : gK) ∉ gOrd n := by
  intro h
  have h := gOrd_cs h
  unfold gIn at h
  simp only [Prod.mk.injEq] at h
  rcases h with h | h | h | h | ⟨_, _, h⟩ | ⟨_, _, h⟩ | h | h | ⟨_, _, h⟩ | ⟨_, _, h⟩ | ⟨_, _, h⟩ | ⟨_, _, _, _, h⟩ | ⟨_, _, _, _, h⟩ | h | ⟨_, _, h⟩ <;> omega
/-! what the constructors left -/
theorem fG1_1 {S : gS} {n : Nat} {K : gK} {f : Nat} : (sG1 S n).1 K f = if K = (3, 0, 0) ∧ f = 3 then 0 else if K = (0, 0, 0) ∧ f = 0 then nI n else S.1 K f := rfl
theorem fG1_2 {S : gS} {n : Nat} {K : gK} {f : Nat} : (sG1 S n).2 K f = if K = (0, 0, 0) ∧ f = 1 then some (1, 0, 0) else if K = (0, 0, 0) ∧ f = 2 then some (2, 0, 0) else if K = (0, 0, 0) ∧ f = 3 then some (3, 0, 0) else if K = (4, 0, 0) ∧ f < 60 then some (5, f, 0) else if K = (4, 1, 0) ∧ f < 60 then some (5, 60 + f, 0) else if K.1 = 5 ∧ K.2.2 = 0 ∧ f = 7 ∧ (K.2.1 < 60 ∨ (60 ≤ K.2.1 ∧ K.2.1 < 60 + 60)) then some (6, K.2.1, 0) else if K = (3, 0, 0) ∧ f = 2 then some (5, 120, 0) else if K = (5, 120, 0) ∧ f = 7 then some (6, 120, 0) else if K = (3, 0, 0) ∧ f = 1 then some (4, 1, 0) else if K = (3, 0, 0) ∧ f = 0 then some (4, 0, 0) else S.2 K f := rfl
theorem sNs_z {n : Nat} {S : gS} {f : Nat} : ∀ {k : Nat}, (sNs n S k).1 (1, 0, 0) f = S.1 (1, 0, 0) f
  | 0 => rfl
  | k + 1 => by
    show (sNd (sNs n S k) k n).1 (1, 0, 0) f = _
    rw [(sNd_o (by simp)).1]; exact sNs_z
theorem fF {n : Nat} {K : gK} {f : Nat} (h20 : K ≠ (20, 0, 0)) : (sZ (sG S0 n) n).1 K f = (if K = (0, 0, 0) ∧ f = 4 then 0 else (sNs n (sG1 S0 n) n).1 K f) ∧ (sZ (sG S0 n) n).2 K f = (sNs n (sG1 S0 n) n).2 K f := by
  refine ⟨?_, ?_⟩
  · show (gI (sZr (sG S0 n) 25) (20, 0, 0) 0 (nI n)).1 K f = _
    rw [gI1, if_neg (fun q => h20 q.1), sZr_1]; rfl
  · exact sZr_o (S := sG S0 n) (k := 25) h20
theorem fO {n : Nat} {K : gK} {f : Nat} (h20 : K ≠ (20, 0, 0)) (h : K.1 ≠ 7 ∧ K.1 ≠ 8 ∧ K.1 ≠ 10 ∧ K.1 ≠ 1) : (sZ (sG S0 n) n).1 K f = (if K = (0, 0, 0) ∧ f = 4 then 0 else (sG1 S0 n).1 K f) ∧ (sZ (sG S0 n) n).2 K f = (sG1 S0 n).2 K f := by
  obtain ⟨a, b⟩ := fF (n := n) (f := f) h20
  obtain ⟨c, d⟩ := sNs_o (n := n) (S := sG1 S0 n) (K := K) (f := f) (k := n) (by omega) h.2.2.2
  rw [a, b, c, d]; exact ⟨rfl, rfl⟩
theorem fN {n : Nat} {K : gK} {f i : Nat} (hi : i < n) (hK : K.2.1 = i) (h7 : 7 ≤ K.1) (h11 : K.1 ≤ 11) : (sZ (sG S0 n) n).1 K f = (if K = (7, i, 0) ∧ f = 1 then nI n else if K = (7, i, 0) ∧ f = 0 then nI i else 0) ∧ (sZ (sG S0 n) n).2 K f = (if K = (10, i, 0) ∧ f < 4 then some (11, i, f) else if K = (8, i, 0) ∧ f < n then some (9, i, f) else if K = (7, i, 0) ∧ f = 3 then some (8, i, 0) else if K = (7, i, 0) ∧ f = 2 then some (3, 0, 0) else if K = (7, i, 0) ∧ f = 4 then some (10, i, 0) else none) := by
  have n0 : ∀ a b c : Nat, a < 7 → K ≠ (a, b, c) := fun a b c ha q => by rw [q] at h7; exact absurd h7 (by show ¬ 7 ≤ a; omega)
  obtain ⟨a, b⟩ := fF (n := n) (K := K) (f := f) (fun q => by rw [q] at h11; exact absurd h11 (by decide))
  obtain ⟨c, d⟩ := sNs_n (n := n) (S := sG1 S0 n) (K := K) (f := f) (i := i) hK (by omega) hi
  obtain ⟨e, g⟩ := sNs_o (n := n) (S := sG1 S0 n) (K := K) (f := f) (k := i) (by omega) (by omega)
  have n5 : ¬ K.1 = 5 := by omega
  have n00 := n0 0 0 0 (by decide)
  have n30 := n0 3 0 0 (by decide)
  have n40 := n0 4 0 0 (by decide)
  have n41 := n0 4 1 0 (by decide)
  have n512 := n0 5 120 0 (by decide)
  have z1 : (sG1 S0 n).1 K f = 0 := by rw [fG1_1]; simp only [n00, n30, false_and, if_false]; rfl
  have z2 : (sG1 S0 n).2 K f = none := by rw [fG1_2]; simp only [n00, n30, n40, n41, n512, n5, false_and, if_false]; rfl
  rw [a, b, c, d, sNd_1, sNd_2, e, g, z1, z2]
  simp only [n00, false_and, if_false, and_self]
theorem sT_eq {n : Nat} {k : gK} (hk : k ∈ gOrd n) {f : Nat} (h1 : ∀ ci, gSh n k = .inl ci → f < gNf ci) (h2 : ∀ ty m, gSh n k = .inr (ty, m) → f < m) : (sT n).1 k f = (sZ (sG S0 n) n).1 k f ∧ (sT n).2 k f = (sZ (sG S0 n) n).2 k f := by
  rcases gOrd_cs hk with rfl | rfl | rfl | rfl | ⟨a, ha, rfl⟩ | ⟨a, ha, rfl⟩ | rfl | rfl | ⟨i, hi, rfl⟩ | ⟨i, hi, rfl⟩ | ⟨i, hi, rfl⟩ | ⟨i, j, hi, hj, rfl⟩ | ⟨i, r, hi, hr, rfl⟩ | rfl | ⟨q, hq, rfl⟩
  · have hf : f < 5 := h1 5 rfl
    obtain ⟨a, b⟩ := fO (n := n) (K := (0, 0, 0)) (f := f) (by decide) (by decide)
    rw [a, b, fG1_1, fG1_2]
    rcases (by omega : f = 0 ∨ f = 1 ∨ f = 2 ∨ f = 3 ∨ f = 4) with rfl | rfl | rfl | rfl | rfl <;> exact ⟨rfl, rfl⟩
  · have hf : f < 4 := h1 1 rfl
    obtain ⟨a, b⟩ := fO (n := n) (K := (3, 0, 0)) (f := f) (by decide) (by decide)
    rw [a, b, fG1_1, fG1_2]
    rcases (by omega : f = 0 ∨ f = 1 ∨ f = 2 ∨ f = 3) with rfl | rfl | rfl | rfl <;> exact ⟨rfl, rfl⟩
  · have hf : f < 60 := h2 3 60 rfl
    obtain ⟨a, b⟩ := fO (n := n) (K := (4, 0, 0)) (f := f) (by decide) (by decide)
    rw [a, b, fG1_1, fG1_2]
    refine ⟨rfl, ?_⟩
    simp [sT, hf]
  · have hf : f < 60 := h2 3 60 rfl
    obtain ⟨a, b⟩ := fO (n := n) (K := (4, 1, 0)) (f := f) (by decide) (by decide)
    rw [a, b, fG1_1, fG1_2]
    refine ⟨rfl, ?_⟩
    simp [sT, hf]
  · have hf : f < 8 := h1 2 rfl
    obtain ⟨c, d⟩ := fO (n := n) (K := (5, a, 0)) (f := f) (by simp) (by simp)
    rw [c, d, fG1_1, fG1_2]
    refine ⟨by simp [sT, S0], ?_⟩
    by_cases h7 : f = 7
    · subst h7
      by_cases h120 : a = 120
      · subst h120; rfl
      · have : a < 60 ∨ 60 ≤ a ∧ a < 120 := by omega
        have g : gStat (5, a, 0) 7 = some (6, a, 0) := rfl
        simp [sT, g, this]
    · rcases (by omega : f = 0 ∨ f = 1 ∨ f = 2 ∨ f = 3 ∨ f = 4 ∨ f = 5 ∨ f = 6) with rfl | rfl | rfl | rfl | rfl | rfl | rfl <;> (refine Eq.trans (b := none) rfl ?_; simp [S0])
  · obtain ⟨c, d⟩ := fO (n := n) (K := (6, a, 0)) (f := f) (by simp) (by simp)
    rw [c, d, fG1_1, fG1_2]
    exact ⟨by simp [sT, S0], Eq.trans (b := none) rfl (by simp [S0])⟩
  · obtain ⟨c, d⟩ := fO (n := n) (K := (2, 0, 0)) (f := f) (by simp) (by simp)
    rw [c, d, fG1_1, fG1_2]
    exact ⟨by simp [sT, S0], Eq.trans (b := none) rfl (by simp [S0])⟩
  · have hf : f < n := h2 2 n rfl
    obtain ⟨c, d⟩ := fF (n := n) (K := (1, 0, 0)) (f := f) (by decide)
    rw [c, d, sNs_1 hf, sNs_z]
    exact ⟨by simp [sT, S0, fG1_1], rfl⟩
  · have hf : f < 18 := h1 3 rfl
    obtain ⟨c, d⟩ := fN (n := n) (K := (7, i, 0)) (f := f) hi rfl (by simp) (by simp)
    rw [c, d]
    rcases (by omega : f = 0 ∨ f = 1 ∨ f = 2 ∨ f = 3 ∨ f = 4 ∨ 5 ≤ f) with rfl | rfl | rfl | rfl | rfl | h5
    · exact ⟨by simp [sT], Eq.trans (b := none) rfl (by simp)⟩
    · exact ⟨by simp [sT], Eq.trans (b := none) rfl (by simp)⟩
    · exact ⟨by simp [sT], Eq.trans (b := some (3, 0, 0)) rfl (by simp)⟩
    · exact ⟨by simp [sT], Eq.trans (b := some (8, i, 0)) rfl (by simp)⟩
    · exact ⟨by simp [sT], Eq.trans (b := some (10, i, 0)) rfl (by simp)⟩
    · obtain ⟨g, rfl⟩ : ∃ g, f = g + 5 := ⟨f - 5, by omega⟩
      exact ⟨by simp [sT], Eq.trans (b := none) rfl (by simp)⟩
  · have hf : f < 4 := h2 5 4 rfl
    obtain ⟨c, d⟩ := fN (n := n) (K := (10, i, 0)) (f := f) hi rfl (by simp) (by simp)
    rw [c, d]
    exact ⟨by simp [sT], by simp [sT, hf]⟩
  · have hf : f < n := h2 4 n rfl
    obtain ⟨c, d⟩ := fN (n := n) (K := (8, i, 0)) (f := f) hi rfl (by simp) (by simp)
    rw [c, d]
    exact ⟨by simp [sT], Eq.trans (b := some (9, i, f)) rfl (by simp [hf])⟩
  · obtain ⟨c, d⟩ := fN (n := n) (K := (9, i, j)) (f := f) hi rfl (by simp) (by simp)
    rw [c, d]
    exact ⟨by simp [sT], Eq.trans (b := none) rfl (by simp)⟩
  · obtain ⟨c, d⟩ := fN (n := n) (K := (11, i, r)) (f := f) hi rfl (by simp) (by simp)
    rw [c, d]
    exact ⟨by simp [sT], Eq.trans (b := none) rfl (by simp)⟩
  · have hf : f < 28 := h1 6 rfl
    refine ⟨?_, ?_⟩
    · show _ = (gI (sZr (sG S0 n) 25) (20, 0, 0) 0 (nI n)).1 (20, 0, 0) f
      rw [gI1, sZr_1]
      by_cases e : f = 0
      · subst e; rfl
      · rw [if_neg (fun q => e q.2)]
        show _ = (gI (sNs n (sG1 S0 n) n) (0, 0, 0) 4 0).1 (20, 0, 0) f
        rw [gI1, if_neg (fun q => by simp at q), (sNs_o (by simp) (by simp)).1, fG1_1]
        simp [sT, S0, e]
    · show _ = (sZr (sG S0 n) 25).2 (20, 0, 0) f
      by_cases e : f < 3
      · rw [sZr_b e]
        show _ = (sNs n (sG1 S0 n) n).2 (20, 0, 0) f
        rw [(sNs_o (by simp) (by simp)).2, fG1_2]
        rcases (by omega : f = 0 ∨ f = 1 ∨ f = 2) with rfl | rfl | rfl <;> (refine Eq.trans (b := none) rfl ?_; simp [S0])
      · obtain ⟨j, rfl⟩ : ∃ j, f = 3 + j := ⟨f - 3, by omega⟩
        rw [sZr_a (by omega)]
        have hj : j < 25 := by omega
        exact (by decide : ∀ j, j < 25 → (sT 0).2 (20, 0, 0) (3 + j) = some (21 + j, 0, 0)) j hj
  · obtain ⟨c, d⟩ := fO (n := n) (K := (21 + q, 0, 0)) (f := f) (by simp; omega) (by refine ⟨?_, ?_, ?_, ?_⟩ <;> (show ¬ (21 + q = _); omega))
    rw [c, d, fG1_1, fG1_2]
    have g1 : ∀ a, a < 21 → ¬ (21 + q = a) := fun a ha => by omega
    have g2 : gStat (21 + q, 0, 0) f = none := by
      rw [Nat.add_comm]; rfl
    refine ⟨?_, ?_⟩
    · simp [sT, S0, g1]
    · show (if _ then _ else _) = _
      rw [g2]
      simp [g1, S0]
theorem gP_first {G : gG} {H : Heap} (h : gP G (gTt G) (sZ (sG S0 G.1) G.1) H) : gP G (gTt G) (sT G.1) H := by
  refine h.chg (fun k hk => ?_)
  rw [gKs_all] at hk
  refine ⟨fun ci hs f hf => sT_eq hk (fun c hc => ?_) (fun ty m hm => ?_), fun ty m hs f hf => sT_eq hk (fun c hc => ?_) (fun ty' m' hm => ?_)⟩
  · rw [hs] at hc; cases hc; exact hf
  · rw [hs] at hm; cases hm
  · rw [hs] at hc; cases hc
  · rw [hs] at hm; cases hm; exact hf
/-! the relations at the first state -/
theorem CR_first {G : gG} (h8 : G.1 ≤ 8) (h2 : 2 ≤ G.1) : CR G M0 0 0 none (sT G.1) := by
  refine ⟨⟨sT_st, h8, h2, fun i hi => ⟨rfl, rfl⟩, rfl⟩, fun i j f hi hj hf => rfl, fun i f hi h5 h18 hn => ?_, fun i hi => ?_, ⟨fun i hi => ⟨[], isMk_0, fun j hj => ⟨fun q => (by cases q), fun q => absurd q (by show ¬ (0 : Int32) = 1; decide)⟩⟩, rfl⟩, ?_⟩
  · show (sT G.1).1 (7, i, 0) f = 0
    have e0 : ¬ f = 0 := by omega
    have e1 : ¬ f = 1 := by omega
    simp [sT, e0, e1]
  · exact ⟨fun k => k, Nat.zero_le _, rfl, fun k hk => ⟨rfl, hk⟩, fun k k' _ _ q => q, fun k hk => by cases hk⟩
  · exact ⟨0, fun c k => 60 * c + k, by decide, rfl, rfl, fun c k hc hk => ⟨rfl, (by show 60 * c + k < 120; omega)⟩, fun c k c' k' hc hk hc' hk' q => (by have q2 : 60 * c + k = 60 * c' + k' := q; omega), Nat.le_refl _, Nat.zero_le _, rfl, fun k hk => (by cases hk), Nat.zero_le _, fun q hq => (by cases hq), fun a msg q => by cases q⟩
theorem mRn_0 {i : Nat} (h : mRn M0 i) : False := h rfl
theorem DR_first {G : gG} (h8 : G.1 ≤ 8) (h2 : 2 ≤ G.1) : DR G M0 (fun _ => false) (sT G.1) := by
  refine ⟨sT_st, ⟨h8, h2⟩, rfl, rfl, ⟨rfl, Nat.zero_le _, fun k hk => by cases hk⟩, fun i j _ _ _ => rfl, fun i _ _ => rfl, ?_⟩
  refine ⟨fun i _ q => (mRn_0 q).elim, fun i _ q => (mRn_0 q).elim, fun i _ q => (mRn_0 q).elim, fun i _ q => (mRn_0 q).elim, fun i _ q => (mRn_0 q).elim, fun i _ q => (mRn_0 q).elim, fun i _ q => (mRn_0 q).elim, fun i _ q => (mRn_0 q.1).elim, fun i _ q => (mRn_0 q.1).elim, fun i _ q => (mRn_0 q.1).elim, fun i _ q => (mRn_0 q.1).elim, fun i _ q => (mRn_0 q.1).elim, fun i _ q => (mRn_0 q).elim, ?_⟩
  exact ⟨fun i j _ _ q => (mRn_0 q.1).elim, fun i j _ _ q => (mRn_0 q).elim, fun i j _ _ q => (mRn_0 q.1).elim, fun i j _ _ q => (mRn_0 q.1).elim, fun i j _ _ q => (mRn_0 q).elim, fun i j _ _ q => (mRn_0 q.1).elim, fun i j _ _ q => (mRn_0 q.1).elim⟩
theorem mInv_first {n : Nat} (h8 : n ≤ 8) (h2 : 2 ≤ n) : mInv n 0 (fun _ => false) M0 := ⟨⟨h2, h8⟩, ⟨Nat.zero_le _, fun _ q => by cases q⟩, fun i _ => isB_0, fun i j _ _ => ⟨isB_0, rfl⟩, fun i _ q => (mRn_0 q).elim⟩
/-! either side's calls keep the other's relation -/
theorem CR.fc {G : gG} {M : mM} {p i0 : Nat} {kc : Option (Nat × List Int32)} {S S' : gS} (h : CR G M p i0 kc S) (hc : gFc S S') (hs : gSt G S') : CR G M p i0 kc S' := by
  have e : ∀ a b c : Nat, a < 20 → S'.1 (a, b, c) = S.1 (a, b, c) := fun a b c q => (hc (a, b, c) q).1
  have r : ∀ a b c : Nat, a < 20 → S'.2 (a, b, c) = S.2 (a, b, c) := fun a b c q => (hc (a, b, c) q).2
  have e0 := e 0 0 0 (by decide)
  have e2 := e 2 0 0 (by decide)
  have e3 := e 3 0 0 (by decide)
  have e5 := fun a => e 5 a 0 (by decide)
  have e6 := fun a => e 6 a 0 (by decide)
  have e7 := fun a => e 7 a 0 (by decide)
  have e9 := fun a b => e 9 a b (by decide)
  have e11 := fun a b => e 11 a b (by decide)
  have r3 := r 3 0 0 (by decide)
  have r4 := fun a => r 4 a 0 (by decide)
  have r10 := fun a => r 10 a 0 (by decide)
  unfold CR cK CL CC CF isMsg at h ⊢
  simp only [e0, e2, e3, e5, e6, e7, e9, e11, r3, r4, r10]
  exact ⟨⟨hs, h.1.2⟩, h.2⟩
theorem DR.fr {G : gG} {M : mM} {ow : Nat → Bool} {S S' : gS} (h : DR G M ow S) (hc : gFr S S') (hs : gSt G S') : DR G M ow S' := by
  have e : ∀ a : Nat, 20 ≤ a → S'.1 (a, 0, 0) = S.1 (a, 0, 0) := fun a q => (hc (a, 0, 0) q).1
  unfold DR DFl C64 C8 DLr DPb at h ⊢
  simp only [e 20 (by decide), e 21 (by decide), e 23 (by decide), e 24 (by decide), e 25 (by decide), e 26 (by decide), e 27 (by decide), e 28 (by decide), e 29 (by decide), e 30 (by decide), e 31 (by decide), e 32 (by decide), e 33 (by decide), e 34 (by decide), e 35 (by decide), e 36 (by decide), e 37 (by decide), e 38 (by decide), e 39 (by decide), e 40 (by decide), e 41 (by decide), e 42 (by decide), e 43 (by decide), e 44 (by decide), e 45 (by decide)]
  exact ⟨hs, h.2⟩
theorem fZ0 {n : Nat} {K : gK} {f : Nat} (h : 20 ≤ K.1) : (sG S0 n).1 K f = 0 ∧ (sG S0 n).2 K f = none := by
  have n0 : ∀ a b c : Nat, a < 20 → K ≠ (a, b, c) := fun a b c ha q => by rw [q] at h; exact absurd h (by show ¬ 20 ≤ a; omega)
  obtain ⟨c, d⟩ := sNs_o (n := n) (S := sG1 S0 n) (K := K) (f := f) (k := n) (by omega) (by omega)
  have n5 : ¬ K.1 = 5 := by omega
  have n00 := n0 0 0 0 (by decide)
  have n30 := n0 3 0 0 (by decide)
  have n40 := n0 4 0 0 (by decide)
  have n41 := n0 4 1 0 (by decide)
  have n512 := n0 5 120 0 (by decide)
  refine ⟨?_, ?_⟩
  · show (gI (sNs n (sG1 S0 n) n) (0, 0, 0) 4 0).1 K f = 0
    rw [gI1, if_neg (fun q => n00 q.1), c, fG1_1]; simp only [n00, n30, false_and, if_false]; rfl
  · show (sNs n (sG1 S0 n) n).2 K f = none
    rw [d, fG1_2]; simp only [n00, n30, n40, n41, n512, n5, false_and, if_false]; rfl
