def zClr (S : gS) (i k : Nat) : gS := (fun K f => if (27 ≤ K.1 ∧ K.1 ≤ 31 ∧ K.2 = (0, 0)) ∧ 8 * i ≤ f ∧ f < 8 * i + k then 0 else S.1 K f, S.2)
theorem zClr_0 {S : gS} {i : Nat} : zClr S i 0 = S := Prod.ext (funext fun K => funext fun f => if_neg (by omega)) rfl
theorem zClr_fc {S : gS} {i k : Nat} : gFc S (zClr S i k) := fun K hK => ⟨funext fun f => if_neg (by omega), rfl⟩
theorem zClr_s {S : gS} {i k : Nat} : gI (gI (gI (gI (gI (zClr S i k) (27, 0, 0) (8 * i + k) 0) (28, 0, 0) (8 * i + k) 0) (29, 0, 0) (8 * i + k) 0) (30, 0, 0) (8 * i + k) 0) (31, 0, 0) (8 * i + k) 0 = zClr S i (k + 1) := by
  refine Prod.ext (funext fun K => funext fun f => ?_) rfl
  rw [gI1, gI1, gI1, gI1, gI1]
  obtain ⟨a, b⟩ := K
  unfold zClr
  by_cases hb : b = (0, 0)
  · subst hb
    simp only [Prod.mk.injEq, and_true]
    by_cases e : f = 8 * i + k
    · subst e
      by_cases ha : 27 ≤ a ∧ a ≤ 31
      · rw [if_pos (show (27 ≤ a ∧ a ≤ 31) ∧ 8 * i ≤ 8 * i + k ∧ 8 * i + k < 8 * i + (k + 1) from ⟨ha, by omega, by omega⟩)]
        rcases (show a = 27 ∨ a = 28 ∨ a = 29 ∨ a = 30 ∨ a = 31 by omega) with q | q | q | q | q <;> subst q <;> simp
      · rw [if_neg (by omega), if_neg (by omega), if_neg (by omega), if_neg (by omega), if_neg (by omega), if_neg (by omega), if_neg (by omega)]
    · rw [if_neg (by omega), if_neg (by omega), if_neg (by omega), if_neg (by omega), if_neg (by omega)]
      by_cases q : (27 ≤ a ∧ a ≤ 31) ∧ 8 * i ≤ f ∧ f < 8 * i + k
      · rw [if_pos q, if_pos (by omega)]
      · rw [if_neg q, if_neg (by omega)]
  · have hn : ∀ c, ¬ ((a, b) = ((c, 0, 0) : gK) ∧ f = 8 * i + k) := fun c z => hb (congrArg Prod.snd z.1)
    rw [if_neg (hn 31), if_neg (hn 30), if_neg (hn 29), if_neg (hn 28), if_neg (hn 27)]
    exact (if_neg (fun z => hb z.1.2.2)).trans (if_neg (fun z => hb z.1.2.2)).symm
def zBeg (S : gS) (i : Nat) (w : Int32) : gS := zEnt (gI (gI (gI (gI (gI (gI (gI (gI (gI (zClr S i 8) (24, 0, 0) i 1) (25, 0, 0) i w) (26, 0, 0) i 0) (34, 0, 0) i 0) (36, 0, 0) i 0) (40, 0, 0) i 0) (41, 0, 0) i 2) (44, 0, 0) i (nI i)) (45, 0, 0) i (nI i)) i i 1 0 w 0
theorem DR.beg {G : gG} {M : mM} {ow : Nat → Bool} {S : gS} (h : DR G M ow S) {i : Nat} (hi : i < G.1) (w : Int32) : DR G (mBegin G.1 M i w) ow (zBeg S i w) ∧ gFc S (zBeg S i w) := by
  obtain ⟨d0, d1, d2, d3, d4, d5, d6, d7, d8, d9, d10, d11, d12, d13, d14, d15, d16, d17, d18, d19, d20, d21, d22, d23, d24, d25, d26⟩ := h
  have h8 := d1.1
  obtain ⟨f15, f16, f17, f19, f20, f21, f22, f23, f24, f27⟩ := mBegin_f (n := G.1) (M := M) (i := i) (w := w)
  obtain ⟨b0, b1, b2, b3, b4⟩ := mBecome_eq (M := mForget M i G.1) (i := i) (j := i) (s := 1) (inc := 0) (w := w)
  have hr : ∀ i', i' ≠ i → mRn (mBegin G.1 M i w) i' → mRn M i' := fun i' hne q => by
    unfold mRn at q ⊢; rw [mBegin_ne hne] at q; exact q
  have hp : ∀ i', mPb (mBegin G.1 M i w) i' → i' ≠ i ∧ mPb M i' := fun i' q => by
    have hne : i' ≠ i := fun z => q.2 (by rw [z]; exact f21)
    refine ⟨hne, hr i' hne q.1, ?_⟩
    have := q.2
    rw [mBegin_ne hne] at this
    exact this
  have g3 : (zBeg S i w).1 (20, 0, 0) 1 = (mBegin G.1 M i w).1 31 0 0 := by rw [mBegin_h (by decide)]; exact d3
  have g4 : DFl (zBeg S i w) (mBegin G.1 M i w).2.2 := by rw [mBegin_r]; exact d4
  have g5 : C64 G (zBeg S i w) (mBegin G.1 M i w) 23 30 (fun _ _ => True) := fun a b ha hb q => by rw [mBegin_h (by decide)]; exact d5 a b ha hb q
  have g6 : C8 G (zBeg S i w) (mBegin G.1 M i w) 24 15 (fun _ => True) := fun i' hi' q => by
    show (gI S (24, 0, 0) i 1).1 (24, 0, 0) i' = _
    rw [gI1]
    by_cases e : i' = i
    · subst e; rw [if_pos ⟨rfl, rfl⟩, f15]
    · rw [if_neg (fun z => e z.2), mBegin_ne e]; exact d6 i' hi' trivial
  have g7 : C8 G (zBeg S i w) (mBegin G.1 M i w) 25 16 (mRn (mBegin G.1 M i w)) := fun i' hi' q => by
    show (gI S (25, 0, 0) i w).1 (25, 0, 0) i' = _
    rw [gI1]
    by_cases e : i' = i
    · subst e; rw [if_pos ⟨rfl, rfl⟩, f16]
    · rw [if_neg (fun z => e z.2), mBegin_ne e]; exact d7 i' hi' (hr i' e q)
  have g8 : C8 G (zBeg S i w) (mBegin G.1 M i w) 26 17 (mRn (mBegin G.1 M i w)) := fun i' hi' q => by
    show (gI S (26, 0, 0) i 0).1 (26, 0, 0) i' = _
    rw [gI1]
    by_cases e : i' = i
    · subst e; rw [if_pos ⟨rfl, rfl⟩, f17]
    · rw [if_neg (fun z => e z.2), mBegin_ne e]; exact d8 i' hi' (hr i' e q)
  have g9 : C8 G (zBeg S i w) (mBegin G.1 M i w) 40 20 (mRn (mBegin G.1 M i w)) := fun i' hi' q => by
    show (gI S (40, 0, 0) i 0).1 (40, 0, 0) i' = _
    rw [gI1]
    by_cases e : i' = i
    · subst e; rw [if_pos ⟨rfl, rfl⟩, f20]
    · rw [if_neg (fun z => e z.2), mBegin_ne e]; exact d9 i' hi' (hr i' e q)
  have g10 : C8 G (zBeg S i w) (mBegin G.1 M i w) 41 19 (mRn (mBegin G.1 M i w)) := fun i' hi' q => by
    show (gI S (41, 0, 0) i 2).1 (41, 0, 0) i' = _
    rw [gI1]
    by_cases e : i' = i
    · subst e; rw [if_pos ⟨rfl, rfl⟩, f19]
    · rw [if_neg (fun z => e z.2), mBegin_ne e]; exact d10 i' hi' (hr i' e q)
  have g11 : C8 G (zBeg S i w) (mBegin G.1 M i w) 44 22 (mRn (mBegin G.1 M i w)) := fun i' hi' q => by
    show (gI S (44, 0, 0) i (nI i)).1 (44, 0, 0) i' = _
    rw [gI1]
    by_cases e : i' = i
    · subst e; rw [if_pos ⟨rfl, rfl⟩, f22]
    · rw [if_neg (fun z => e z.2), mBegin_ne e]; exact d11 i' hi' (hr i' e q)
  have g12 : C8 G (zBeg S i w) (mBegin G.1 M i w) 45 27 (mRn (mBegin G.1 M i w)) := fun i' hi' q => by
    show (gI S (45, 0, 0) i (nI i)).1 (45, 0, 0) i' = _
    rw [gI1]
    by_cases e : i' = i
    · subst e; rw [if_pos ⟨rfl, rfl⟩, f27]
    · rw [if_neg (fun z => e z.2), mBegin_ne e]; exact d12 i' hi' (hr i' e q)
  have g13 : DPb G (zBeg S i w) (mBegin G.1 M i w) := fun i' hi' q => by
    show (gI S (36, 0, 0) i 0).1 (36, 0, 0) i' = _
    rw [gI1]
    by_cases e : i' = i
    · subst e; rw [if_pos ⟨rfl, rfl⟩, f21]; rfl
    · rw [if_neg (fun z => e z.2), mBegin_ne e]; exact d13 i' hi' (hr i' e q)
  have g14 : C8 G (zBeg S i w) (mBegin G.1 M i w) 37 21 (mPb (mBegin G.1 M i w)) := fun i' hi' q => by rw [mBegin_ne (hp i' q).1]; exact d14 i' hi' (hp i' q).2
  have g15 : C8 G (zBeg S i w) (mBegin G.1 M i w) 38 23 (mPb (mBegin G.1 M i w)) := fun i' hi' q => by rw [mBegin_ne (hp i' q).1]; exact d15 i' hi' (hp i' q).2
  have g16 : C8 G (zBeg S i w) (mBegin G.1 M i w) 39 24 (mPb (mBegin G.1 M i w)) := fun i' hi' q => by rw [mBegin_ne (hp i' q).1]; exact d16 i' hi' (hp i' q).2
  have g17 : C8 G (zBeg S i w) (mBegin G.1 M i w) 42 25 (mPb (mBegin G.1 M i w)) := fun i' hi' q => by rw [mBegin_ne (hp i' q).1]; exact d17 i' hi' (hp i' q).2
  have g18 : C8 G (zBeg S i w) (mBegin G.1 M i w) 43 26 (mPb (mBegin G.1 M i w)) := fun i' hi' q => by rw [mBegin_ne (hp i' q).1]; exact d18 i' hi' (hp i' q).2
  have g19 : DLr G (zBeg S i w) (mBegin G.1 M i w) := fun i' hi' q => by
    rw [mBegin_r]
    show (gI S (34, 0, 0) i 0).1 (34, 0, 0) i' = nI (if i' = i then [] else M.2.1 i').length ∧ (if i' = i then [] else M.2.1 i').length ≤ 4 ∧ ∀ k, k < (if i' = i then [] else M.2.1 i').length → ∀ f, f < 4 → S.1 (35, 0, 0) (16 * i' + 4 * k + f) = ((if i' = i then [] else M.2.1 i').getD k []).getD f 0
    rw [gI1]
    by_cases e : i' = i
    · subst e
      rw [if_pos ⟨rfl, rfl⟩, if_pos rfl]
      exact ⟨rfl, Nat.zero_le _, fun k hk => by cases hk⟩
    · rw [if_neg (fun z => e z.2), if_neg e]; exact d19 i' hi' (hr i' e q)
  have g20 : C64 G (zBeg S i w) (mBegin G.1 M i w) 27 0 (mOw (mBegin G.1 M i w) ow) := fun i' j hi' hj q => by
    have ec : (zBeg S i w).1 (27, 0, 0) (8 * i' + j) = if 8 * i' + j = 8 * i + i then 1 else if 8 * i ≤ 8 * i' + j ∧ 8 * i' + j < 8 * i + 8 then 0 else S.1 (27, 0, 0) (8 * i' + j) := by
      show (gI (zClr S i 8) (27, 0, 0) (8 * i + i) 1).1 (27, 0, 0) (8 * i' + j) = _
      rw [gI1]
      simp [zClr]
    rw [ec]
    by_cases e : i' = i
    · subst e
      rw [mBegin_e (by decide)]
      by_cases ej : j = i'
      · subst ej; rw [if_pos rfl, b0]
      · rw [if_neg (by omega), if_pos (by omega), mBecome_ne (by omega), mForget_eq hj (by decide)]
    · rw [if_neg (by omega), if_neg (by omega), mBegin_ne e]; exact d20 i' j hi' hj ⟨hr i' e q.1, q.2⟩
  have g21 : C64 G (zBeg S i w) (mBegin G.1 M i w) 28 1 (fun i2 _ => mRn (mBegin G.1 M i w) i2) := fun i' j hi' hj q => by
    have ec : (zBeg S i w).1 (28, 0, 0) (8 * i' + j) = if 8 * i' + j = 8 * i + i then 0 else if 8 * i ≤ 8 * i' + j ∧ 8 * i' + j < 8 * i + 8 then 0 else S.1 (28, 0, 0) (8 * i' + j) := by
      show (gI (zClr S i 8) (28, 0, 0) (8 * i + i) 0).1 (28, 0, 0) (8 * i' + j) = _
      rw [gI1]
      simp [zClr]
    rw [ec]
    by_cases e : i' = i
    · subst e
      rw [mBegin_e (by decide)]
      by_cases ej : j = i'
      · subst ej; rw [if_pos rfl, b1]
      · rw [if_neg (by omega), if_pos (by omega), mBecome_ne (by omega), mForget_eq hj (by decide)]
    · rw [if_neg (by omega), if_neg (by omega), mBegin_ne e]; exact d21 i' j hi' hj (hr i' e q)
  have g22 : C64 G (zBeg S i w) (mBegin G.1 M i w) 29 2 (mOw (mBegin G.1 M i w) ow) := fun i' j hi' hj q => by
    have ec : (zBeg S i w).1 (29, 0, 0) (8 * i' + j) = if 8 * i' + j = 8 * i + i then w else if 8 * i ≤ 8 * i' + j ∧ 8 * i' + j < 8 * i + 8 then 0 else S.1 (29, 0, 0) (8 * i' + j) := by
      show (gI (zClr S i 8) (29, 0, 0) (8 * i + i) w).1 (29, 0, 0) (8 * i' + j) = _
      rw [gI1]
      simp [zClr]
    rw [ec]
    by_cases e : i' = i
    · subst e
      rw [mBegin_e (by decide)]
      by_cases ej : j = i'
      · subst ej; rw [if_pos rfl, b2]
      · rw [if_neg (by omega), if_pos (by omega), mBecome_ne (by omega), mForget_eq hj (by decide)]
    · rw [if_neg (by omega), if_neg (by omega), mBegin_ne e]; exact d22 i' j hi' hj ⟨hr i' e q.1, q.2⟩
  have g23 : C64 G (zBeg S i w) (mBegin G.1 M i w) 30 3 (mOw (mBegin G.1 M i w) ow) := fun i' j hi' hj q => by
    have ec : (zBeg S i w).1 (30, 0, 0) (8 * i' + j) = if 8 * i' + j = 8 * i + i then 0 else if 8 * i ≤ 8 * i' + j ∧ 8 * i' + j < 8 * i + 8 then 0 else S.1 (30, 0, 0) (8 * i' + j) := by
      show (gI (zClr S i 8) (30, 0, 0) (8 * i + i) 0).1 (30, 0, 0) (8 * i' + j) = _
      rw [gI1]
      simp [zClr]
    rw [ec]
    by_cases e : i' = i
    · subst e
      rw [mBegin_e (by decide)]
      by_cases ej : j = i'
      · subst ej; rw [if_pos rfl, b3]
      · rw [if_neg (by omega), if_pos (by omega), mBecome_ne (by omega), mForget_eq hj (by decide)]
    · rw [if_neg (by omega), if_neg (by omega), mBegin_ne e]; exact d23 i' j hi' hj ⟨hr i' e q.1, q.2⟩
  have g24 : C64 G (zBeg S i w) (mBegin G.1 M i w) 31 4 (fun i2 _ => mRn (mBegin G.1 M i w) i2) := fun i' j hi' hj q => by
    have ec : (zBeg S i w).1 (31, 0, 0) (8 * i' + j) = if 8 * i' + j = 8 * i + i then 4 else if 8 * i ≤ 8 * i' + j ∧ 8 * i' + j < 8 * i + 8 then 0 else S.1 (31, 0, 0) (8 * i' + j) := by
      show (gI (zClr S i 8) (31, 0, 0) (8 * i + i) 4).1 (31, 0, 0) (8 * i' + j) = _
      rw [gI1]
      simp [zClr]
    rw [ec]
    by_cases e : i' = i
    · subst e
      rw [mBegin_e (by decide)]
      by_cases ej : j = i'
      · subst ej; rw [if_pos rfl, b4]
      · rw [if_neg (by omega), if_pos (by omega), mBecome_ne (by omega), mForget_eq hj (by decide)]
    · rw [if_neg (by omega), if_neg (by omega), mBegin_ne e]; exact d24 i' j hi' hj (hr i' e q)
  have g25 : C64 G (zBeg S i w) (mBegin G.1 M i w) 32 0 (mNw (mBegin G.1 M i w)) := fun i' j hi' hj q => by
    show (gI S (32, 0, 0) (8 * i + i) 1).1 (32, 0, 0) (8 * i' + j) = _
    rw [gI1]
    by_cases e : i' = i
    · subst e
      by_cases ej : j = i'
      · subst ej; rw [if_pos ⟨rfl, rfl⟩, mBegin_e (by decide), b0]
      · have q2 := q.2
        rw [mBegin_e (by decide), mBecome_ne (by omega), mForget_eq hj (by decide)] at q2
        exact absurd q2 Int32.lt_irrefl
    · rw [if_neg (by omega), mBegin_ne e]
      refine d25 i' j hi' hj ⟨hr i' e q.1, ?_⟩
      have q2 := q.2
      rw [mBegin_ne e] at q2
      exact q2
  have g26 : C64 G (zBeg S i w) (mBegin G.1 M i w) 33 1 (mNw (mBegin G.1 M i w)) := fun i' j hi' hj q => by
    show (gI S (33, 0, 0) (8 * i + i) 0).1 (33, 0, 0) (8 * i' + j) = _
    rw [gI1]
    by_cases e : i' = i
    · subst e
      by_cases ej : j = i'
      · subst ej; rw [if_pos ⟨rfl, rfl⟩, mBegin_e (by decide), b1]
      · have q2 := q.2
        rw [mBegin_e (by decide), mBecome_ne (by omega), mForget_eq hj (by decide)] at q2
        exact absurd q2 Int32.lt_irrefl
    · rw [if_neg (by omega), mBegin_ne e]
      refine d26 i' j hi' hj ⟨hr i' e q.1, ?_⟩
      have q2 := q.2
      rw [mBegin_ne e] at q2
      exact q2
  exact ⟨⟨d0, d1, d2, g3, g4, g5, g6, g7, g8, g9, g10, g11, g12, g13, g14, g15, g16, g17, g18, g19, g20, g21, g22, g23, g24, g25, g26⟩, ((((((((((((((((zClr_fc.tr (gFc.I (by simp))).tr (gFc.I (by simp))).tr (gFc.I (by simp))).tr (gFc.I (by simp))).tr (gFc.I (by simp))).tr (gFc.I (by simp))).tr (gFc.I (by simp))).tr (gFc.I (by simp))).tr (gFc.I (by simp))).tr (gFc.I (by simp))).tr (gFc.I (by simp))).tr (gFc.I (by simp))).tr (gFc.I (by simp))).tr (gFc.I (by simp))).tr (gFc.I (by simp))).tr (gFc.I (by simp)))⟩
theorem gc_Z_start {G : gG} {la : Launch} {M : mM} {S : gS} {D : Nat} {x y : Int32} (h : DR G M (fun _ => false) S) (hO : mInv G.1 D (fun _ => false) M) : gM G la qy_Z_start qw_Z_start 3 0 0 (gTt G) (gTt G) [.inr (some (20, 0, 0)), .inl x, .inl y] S (fun v S' => v = some (.inl (bI (oStart G.1 M x y).1)) ∧ DR G (oStart G.1 M x y).2 (fun _ => false) S' ∧ gFc S S') := by
  refine gM_of (cc := qc_Z_start) (maxL := 4) (by decide) rfl (Nat.le_of_ble_eq_true rfl) ?_
  intro E cx hr hnm hcz hsz hEl
  subst hEl
  have hD := h
  obtain ⟨d0, d1, d2, d3, d4, d5, d6, d7, d8, d9, d10, d11, d12, d13, d14, d15, d16, d17, d18, d19, d20, d21, d22, d23, d24, d25, d26⟩ := h
  have h8 := d1.1
  have hst := d0
  unfold oStart
  refine gz_aload_n (pc := 0) cx qd_Z_start_0 rfl rfl ?_
  refine gz_iload_n (pc := 1) cx qd_Z_start_1 rfl rfl ?_
  refine gz_callV (pc := 2) cx qv_Z_90 qd_Z_start_2 (gc_Z_isNode d2) (by decide) rfl gm_Z rfl rfl rfl rfl (Nat.le_of_ble_eq_true rfl) ⟨Nat.zero_le _, Nat.zero_le _⟩ ?_
  rintro _ S9 ⟨rfl, hS9⟩
  rw [hS9]
  cases hx : mIs G.1 x with
  | false =>
    refine gz_if_eq (tgt := 25) (pc := 5) cx qd_Z_start_5 (by decide) (fun _ => ?_) (fun h5 => absurd rfl h5)
    refine gz_iconst (v := 0) (pc := 25) cx qd_Z_start_25 (by decide) ?_
    refine gz_ireturn (pc := 26) cx hr (by decide) qd_Z_start_26 ?_
    rw [if_neg (fun q => nomatch q.1)]
    exact ⟨rfl, hD, gFc.rf⟩
  | true =>
    obtain ⟨i, hi, rfl⟩ := (mIs_iff (by omega)).mp hx
    rw [nI_clamp (n := i) (by omega)]
    have e24 := d6 i hi trivial
    refine gz_if_eq (tgt := 25) (pc := 5) cx qd_Z_start_5 (by decide) (fun h5 => absurd h5 (by decide)) (fun _ => ?_)
    refine gz_aload_n (pc := 8) cx qd_Z_start_8 rfl rfl ?_
    refine gz_getR (pc := 9) cx qf_Z_20 qd_Z_start_9 gm_Z rfl rfl (hst _ _ _ rfl) ?_
    refine gz_iload_n (pc := 12) cx qd_Z_start_12 rfl rfl ?_
    refine gz_zaloadV (pc := 13) cx qd_Z_start_13 (gm_za (by decide) (by decide)) rfl e24 rfl (by omega) (by decide) ?_
    refine gz_if_ne (tgt := 25) (pc := 14) cx qd_Z_start_14 (by decide) (fun h14 => ?_) (fun h14 => ?_)
    · refine gz_iconst (v := 0) (pc := 25) cx qd_Z_start_25 (by decide) ?_
      refine gz_ireturn (pc := 26) cx hr (by decide) qd_Z_start_26 ?_
      rw [if_neg (fun q => h14 q.2.2)]
      exact ⟨rfl, hD, gFc.rf⟩
    · refine gz_aload_n (pc := 17) cx qd_Z_start_17 rfl rfl ?_
      refine gz_iload_n (pc := 18) cx qd_Z_start_18 rfl rfl ?_
      refine gz_callV (pc := 19) cx qv_Z_90 qd_Z_start_19 (gc_Z_isNode d2) (by decide) rfl gm_Z rfl rfl rfl rfl (Nat.le_of_ble_eq_true rfl) ⟨Nat.zero_le _, Nat.zero_le _⟩ ?_
      rintro _ S9 ⟨rfl, hS9⟩
      rw [hS9]
      cases hy : mIs G.1 y with
      | false =>
        refine gz_if_ne (tgt := 27) (pc := 22) cx qd_Z_start_22 (by decide) (fun h22 => absurd rfl h22) (fun _ => ?_)
        refine gz_iconst (v := 0) (pc := 25) cx qd_Z_start_25 (by decide) ?_
        refine gz_ireturn (pc := 26) cx hr (by decide) qd_Z_start_26 ?_
        rw [if_neg (fun q => nomatch q.2.1)]
        exact ⟨rfl, hD, gFc.rf⟩
      | true =>
        obtain ⟨j, hj, rfl⟩ := (mIs_iff (by omega)).mp hy
        refine gz_if_ne (tgt := 27) (pc := 22) cx qd_Z_start_22 (by decide) (fun _ => ?_) (fun h22 => absurd h22 (by decide))
        obtain ⟨c1, f1⟩ := hD.beg hi (M.1 31 0 0)
        have o1 := hO.begin_ (w := M.1 31 0 0) hi
        have r1 : mRn (mBegin G.1 M i (M.1 31 0 0)) i := by unfold mRn; rw [mBegin_f.1]; decide
        have hV := (o1.2.2.2.2 i hi r1).2.1
        rw [if_pos ⟨rfl, rfl, h14⟩]
        suffices hh : ∀ k, k ≤ 8 → (fun k => gZ G E 0 0 (gEnd G E 0 0 (gTt G) (fun v S' => v = some (.inl (bI ((true, if nI j = nI i then mBegin G.1 M i (M.1 31 0 0) else mSend G.1 (mBegin G.1 M i (M.1 31 0 0)) 6 i (nI j) 0 0 0) : Bool × mM).1)) ∧ DR G ((true, if nI j = nI i then mBegin G.1 M i (M.1 31 0 0) else mSend G.1 (mBegin G.1 M i (M.1 31 0 0)) 6 i (nI j) 0 0 0) : Bool × mM).2 (fun _ => false) S' ∧ gFc S S')) (gTt G) 29 [some (.inr (some (20, 0, 0))), some (.inl (nI i)), some (.inl (nI j)), some (.inl (nI k))] [] (zClr S i k)) k by
          refine gz_iconst (v := 0) (pc := 27) cx qd_Z_start_27 (by decide) ?_
          refine gz_istore_n (pc := 28) cx qd_Z_start_28 rfl (Nat.le_of_ble_eq_true rfl) ?_
          have h0 := hh 0 (Nat.zero_le _)
          dsimp only at h0
          rw [zClr_0] at h0
          exact h0
        refine g_upto ?_ ?_
        · refine gz_iload_n (pc := 29) cx qd_Z_start_29 rfl rfl ?_
          refine gz_bipush (v := 8) (pc := 30) cx qd_Z_start_30 (by decide) ?_
          refine gz_icmp_ge (tgt := 101) (pc := 32) cx qd_Z_start_32 (by decide) (fun _ => ?_) (fun h32 => absurd (Int32.le_refl _) h32)
          refine gz_aload_n (pc := 101) cx qd_Z_start_101 rfl rfl ?_
          refine gz_getR (pc := 102) cx qf_Z_20 qd_Z_start_102 gm_Z rfl rfl (show (zClr S i 8).2 (20, 0, 0) _ = _ from hst _ _ _ rfl) ?_
          refine gz_iload_n (pc := 105) cx qd_Z_start_105 rfl rfl ?_
          refine gz_iconst (v := 1) (pc := 106) cx qd_Z_start_106 (by decide) ?_
          refine gz_zastore (pc := 107) cx qd_Z_start_107 (gm_za (by decide) (by decide)) rfl (by decide) rfl (by omega) (by decide) ?_
          refine gz_aload_n (pc := 108) cx qd_Z_start_108 rfl rfl ?_
          refine gz_getR (pc := 109) cx qf_Z_23 qd_Z_start_109 gm_Z rfl rfl (show (zClr S i 8).2 (20, 0, 0) _ = _ from hst _ _ _ rfl) ?_
          refine gz_iload_n (pc := 112) cx qd_Z_start_112 rfl rfl ?_
          refine gz_aload_n (pc := 113) cx qd_Z_start_113 rfl rfl ?_
          refine gz_getV (pc := 114) cx qf_Z_112 qd_Z_start_114 gm_Z rfl rfl (show _ = M.1 31 0 0 from d3) ?_
          refine gz_iastore (pc := 117) cx qd_Z_start_117 (gm_za (by decide) (by decide)) rfl rfl (by omega) (by decide) ?_
          refine gz_aload_n (pc := 118) cx qd_Z_start_118 rfl rfl ?_
          refine gz_getR (pc := 119) cx qf_Z_26 qd_Z_start_119 gm_Z rfl rfl (show (zClr S i 8).2 (20, 0, 0) _ = _ from hst _ _ _ rfl) ?_
          refine gz_iload_n (pc := 122) cx qd_Z_start_122 rfl rfl ?_
          refine gz_iconst (v := 0) (pc := 123) cx qd_Z_start_123 (by decide) ?_
          refine gz_iastore (pc := 124) cx qd_Z_start_124 (gm_za (by decide) (by decide)) rfl rfl (by omega) (by decide) ?_
          refine gz_aload_n (pc := 125) cx qd_Z_start_125 rfl rfl ?_
          refine gz_getR (pc := 126) cx qf_Z_50 qd_Z_start_126 gm_Z rfl rfl (show (zClr S i 8).2 (20, 0, 0) _ = _ from hst _ _ _ rfl) ?_
          refine gz_iload_n (pc := 129) cx qd_Z_start_129 rfl rfl ?_
          refine gz_iconst (v := 0) (pc := 130) cx qd_Z_start_130 (by decide) ?_
          refine gz_iastore (pc := 131) cx qd_Z_start_131 (gm_za (by decide) (by decide)) rfl rfl (by omega) (by decide) ?_
          refine gz_aload_n (pc := 132) cx qd_Z_start_132 rfl rfl ?_
          refine gz_getR (pc := 133) cx qf_Z_56 qd_Z_start_133 gm_Z rfl rfl (show (zClr S i 8).2 (20, 0, 0) _ = _ from hst _ _ _ rfl) ?_
          refine gz_iload_n (pc := 136) cx qd_Z_start_136 rfl rfl ?_
          refine gz_iconst (v := 0) (pc := 137) cx qd_Z_start_137 (by decide) ?_
          refine gz_zastore (pc := 138) cx qd_Z_start_138 (gm_za (by decide) (by decide)) rfl (by decide) rfl (by omega) (by decide) ?_
          refine gz_aload_n (pc := 139) cx qd_Z_start_139 rfl rfl ?_
          refine gz_getR (pc := 140) cx qf_Z_68 qd_Z_start_140 gm_Z rfl rfl (show (zClr S i 8).2 (20, 0, 0) _ = _ from hst _ _ _ rfl) ?_
          refine gz_iload_n (pc := 143) cx qd_Z_start_143 rfl rfl ?_
          refine gz_iconst (v := 0) (pc := 144) cx qd_Z_start_144 (by decide) ?_
          refine gz_iastore (pc := 145) cx qd_Z_start_145 (gm_za (by decide) (by decide)) rfl rfl (by omega) (by decide) ?_
          refine gz_aload_n (pc := 146) cx qd_Z_start_146 rfl rfl ?_
          refine gz_getR (pc := 147) cx qf_Z_71 qd_Z_start_147 gm_Z rfl rfl (show (zClr S i 8).2 (20, 0, 0) _ = _ from hst _ _ _ rfl) ?_
          refine gz_iload_n (pc := 150) cx qd_Z_start_150 rfl rfl ?_
          refine gz_iconst (v := 2) (pc := 151) cx qd_Z_start_151 (by decide) ?_
          refine gz_iastore (pc := 152) cx qd_Z_start_152 (gm_za (by decide) (by decide)) rfl rfl (by omega) (by decide) ?_
          refine gz_aload_n (pc := 153) cx qd_Z_start_153 rfl rfl ?_
          refine gz_getR (pc := 154) cx qf_Z_80 qd_Z_start_154 gm_Z rfl rfl (show (zClr S i 8).2 (20, 0, 0) _ = _ from hst _ _ _ rfl) ?_
          refine gz_iload_n (pc := 157) cx qd_Z_start_157 rfl rfl ?_
          refine gz_iload_n (pc := 158) cx qd_Z_start_158 rfl rfl ?_
          refine gz_iastore (pc := 159) cx qd_Z_start_159 (gm_za (by decide) (by decide)) rfl rfl (by omega) (by decide) ?_
          refine gz_aload_n (pc := 160) cx qd_Z_start_160 rfl rfl ?_
          refine gz_getR (pc := 161) cx qf_Z_83 qd_Z_start_161 gm_Z rfl rfl (show (zClr S i 8).2 (20, 0, 0) _ = _ from hst _ _ _ rfl) ?_
          refine gz_iload_n (pc := 164) cx qd_Z_start_164 rfl rfl ?_
          refine gz_iload_n (pc := 165) cx qd_Z_start_165 rfl rfl ?_
          refine gz_iastore (pc := 166) cx qd_Z_start_166 (gm_za (by decide) (by decide)) rfl rfl (by omega) (by decide) ?_
          refine gz_aload_n (pc := 167) cx qd_Z_start_167 rfl rfl ?_
          refine gz_iload_n (pc := 168) cx qd_Z_start_168 rfl rfl ?_
          refine gz_iload_n (pc := 169) cx qd_Z_start_169 rfl rfl ?_
          refine gz_iconst (v := 1) (pc := 170) cx qd_Z_start_170 (by decide) ?_
          refine gz_iconst (v := 0) (pc := 171) cx qd_Z_start_171 (by decide) ?_
          refine gz_iload_n (pc := 172) cx qd_Z_start_172 rfl rfl ?_
          refine gz_callV (pc := 173) cx qv_Z_119 qd_Z_start_173 (gc_Z_enter (by omega) (by omega) hst) (by decide) rfl gm_Z rfl rfl rfl rfl (Nat.le_of_ble_eq_true rfl) ⟨Nat.zero_le _, Nat.zero_le _⟩ ?_
          rintro _ _ ⟨rfl, rfl⟩
          rw [if_neg (show ¬ (1 : Int32) = 2 by decide)]
          have eS : zEnt (gI (gI (gI (gI (gI (gI (gI (gI (gI (zClr S i 8) (24, 0, 0) i 1) (25, 0, 0) i (M.1 31 0 0)) (26, 0, 0) i 0) (34, 0, 0) i 0) (36, 0, 0) i 0) (40, 0, 0) i 0) (41, 0, 0) i 2) (44, 0, 0) i (nI i)) (45, 0, 0) i (nI i)) i i 1 0 ((gI (gI (gI (gI (gI (gI (gI (gI (gI (zClr S i 8) (24, 0, 0) i 1) (25, 0, 0) i (M.1 31 0 0)) (26, 0, 0) i 0) (34, 0, 0) i 0) (36, 0, 0) i 0) (40, 0, 0) i 0) (41, 0, 0) i 2) (44, 0, 0) i (nI i)) (45, 0, 0) i (nI i)).1 (20, 0, 0) 1) 0 = zBeg S i (M.1 31 0 0) := by
            unfold zBeg
            rw [show (gI (gI (gI (gI (gI (gI (gI (gI (gI (zClr S i 8) (24, 0, 0) i 1) (25, 0, 0) i (M.1 31 0 0)) (26, 0, 0) i 0) (34, 0, 0) i 0) (36, 0, 0) i 0) (40, 0, 0) i 0) (41, 0, 0) i 2) (44, 0, 0) i (nI i)) (45, 0, 0) i (nI i)).1 (20, 0, 0) 1 = M.1 31 0 0 from d3]
          rw [eS]
          refine gz_iload_n (pc := 176) cx qd_Z_start_176 rfl rfl ?_
          refine gz_iload_n (pc := 177) cx qd_Z_start_177 rfl rfl ?_
          refine gz_icmp_eq (tgt := 192) (pc := 178) cx qd_Z_start_178 (by decide) (fun h178 => ?_) (fun h178 => ?_)
          · refine gz_iconst (v := 1) (pc := 192) cx qd_Z_start_192 (by decide) ?_
            refine gz_ireturn (pc := 193) cx hr (by decide) qd_Z_start_193 ?_
            rw [if_pos h178]
            exact ⟨rfl, c1, f1⟩
          · refine gz_aload_n (pc := 181) cx qd_Z_start_181 rfl rfl ?_
            refine gz_bipush (v := 6) (pc := 182) cx qd_Z_start_182 (by decide) ?_
            refine gz_iload_n (pc := 184) cx qd_Z_start_184 rfl rfl ?_
            refine gz_iload_n (pc := 185) cx qd_Z_start_185 rfl rfl ?_
            refine gz_iconst (v := 0) (pc := 186) cx qd_Z_start_186 (by decide) ?_
            refine gz_iconst (v := 0) (pc := 187) cx qd_Z_start_187 (by decide) ?_
            refine gz_iconst (v := 0) (pc := 188) cx qd_Z_start_188 (by decide) ?_
            refine gz_callV (pc := 189) cx qv_Z_123 qd_Z_start_189 (gc_zsend hi c1 r1 (Or.inl (Or.inl rfl)) (fun _ => rfl) hV.pos hV.st0) (by decide) rfl gm_Z rfl rfl rfl rfl (Nat.le_of_ble_eq_true rfl) ⟨Nat.zero_le _, Nat.zero_le _⟩ ?_
            rintro _ S5 ⟨rfl, c5, f5⟩
            refine gz_iconst (v := 1) (pc := 192) cx qd_Z_start_192 (by decide) ?_
            refine gz_ireturn (pc := 193) cx hr (by decide) qd_Z_start_193 ?_
            rw [if_neg h178]
            exact ⟨rfl, c5, f1.tr f5⟩
        · intro k hk ih
          refine gz_iload_n (pc := 29) cx qd_Z_start_29 rfl rfl ?_
          refine gz_bipush (v := 8) (pc := 30) cx qd_Z_start_30 (by decide) ?_
          refine gz_icmp_ge (tgt := 101) (pc := 32) cx qd_Z_start_32 (by decide) (fun h32 => absurd h32 (nI_ge (b := 8) hk (by decide))) (fun _ => ?_)
          refine gz_aload_n (pc := 35) cx qd_Z_start_35 rfl rfl ?_
          refine gz_getR (pc := 36) cx qf_Z_29 qd_Z_start_36 gm_Z rfl rfl (show (zClr S i k).2 (20, 0, 0) _ = _ from hst _ _ _ rfl) ?_
          refine gz_bipush (v := 8) (pc := 39) cx qd_Z_start_39 (by decide) ?_
          refine gz_iload_n (pc := 41) cx qd_Z_start_41 rfl rfl ?_
          refine gz_imul (pc := 42) cx qd_Z_start_42 ?_
          refine gz_iload_n (pc := 43) cx qd_Z_start_43 rfl rfl ?_
          refine gz_iadd (pc := 44) cx qd_Z_start_44 ?_
          try rw [ix8]
          refine gz_iconst (v := 0) (pc := 45) cx qd_Z_start_45 (by decide) ?_
          refine gz_iastore (pc := 46) cx qd_Z_start_46 (gm_za (by decide) (by decide)) rfl rfl (by omega) (by decide) ?_
          refine gz_aload_n (pc := 47) cx qd_Z_start_47 rfl rfl ?_
          refine gz_getR (pc := 48) cx qf_Z_32 qd_Z_start_48 gm_Z rfl rfl (show (zClr S i k).2 (20, 0, 0) _ = _ from hst _ _ _ rfl) ?_
          refine gz_bipush (v := 8) (pc := 51) cx qd_Z_start_51 (by decide) ?_
          refine gz_iload_n (pc := 53) cx qd_Z_start_53 rfl rfl ?_
          refine gz_imul (pc := 54) cx qd_Z_start_54 ?_
          refine gz_iload_n (pc := 55) cx qd_Z_start_55 rfl rfl ?_
          refine gz_iadd (pc := 56) cx qd_Z_start_56 ?_
          try rw [ix8]
          refine gz_iconst (v := 0) (pc := 57) cx qd_Z_start_57 (by decide) ?_
          refine gz_iastore (pc := 58) cx qd_Z_start_58 (gm_za (by decide) (by decide)) rfl rfl (by omega) (by decide) ?_
          refine gz_aload_n (pc := 59) cx qd_Z_start_59 rfl rfl ?_
          refine gz_getR (pc := 60) cx qf_Z_35 qd_Z_start_60 gm_Z rfl rfl (show (zClr S i k).2 (20, 0, 0) _ = _ from hst _ _ _ rfl) ?_
          refine gz_bipush (v := 8) (pc := 63) cx qd_Z_start_63 (by decide) ?_
          refine gz_iload_n (pc := 65) cx qd_Z_start_65 rfl rfl ?_
          refine gz_imul (pc := 66) cx qd_Z_start_66 ?_
          refine gz_iload_n (pc := 67) cx qd_Z_start_67 rfl rfl ?_
          refine gz_iadd (pc := 68) cx qd_Z_start_68 ?_
          try rw [ix8]
          refine gz_iconst (v := 0) (pc := 69) cx qd_Z_start_69 (by decide) ?_
          refine gz_iastore (pc := 70) cx qd_Z_start_70 (gm_za (by decide) (by decide)) rfl rfl (by omega) (by decide) ?_
          refine gz_aload_n (pc := 71) cx qd_Z_start_71 rfl rfl ?_
          refine gz_getR (pc := 72) cx qf_Z_38 qd_Z_start_72 gm_Z rfl rfl (show (zClr S i k).2 (20, 0, 0) _ = _ from hst _ _ _ rfl) ?_
          refine gz_bipush (v := 8) (pc := 75) cx qd_Z_start_75 (by decide) ?_
          refine gz_iload_n (pc := 77) cx qd_Z_start_77 rfl rfl ?_
          refine gz_imul (pc := 78) cx qd_Z_start_78 ?_
          refine gz_iload_n (pc := 79) cx qd_Z_start_79 rfl rfl ?_
          refine gz_iadd (pc := 80) cx qd_Z_start_80 ?_
          try rw [ix8]
          refine gz_iconst (v := 0) (pc := 81) cx qd_Z_start_81 (by decide) ?_
          refine gz_iastore (pc := 82) cx qd_Z_start_82 (gm_za (by decide) (by decide)) rfl rfl (by omega) (by decide) ?_
          refine gz_aload_n (pc := 83) cx qd_Z_start_83 rfl rfl ?_
          refine gz_getR (pc := 84) cx qf_Z_41 qd_Z_start_84 gm_Z rfl rfl (show (zClr S i k).2 (20, 0, 0) _ = _ from hst _ _ _ rfl) ?_
          refine gz_bipush (v := 8) (pc := 87) cx qd_Z_start_87 (by decide) ?_
          refine gz_iload_n (pc := 89) cx qd_Z_start_89 rfl rfl ?_
          refine gz_imul (pc := 90) cx qd_Z_start_90 ?_
          refine gz_iload_n (pc := 91) cx qd_Z_start_91 rfl rfl ?_
          refine gz_iadd (pc := 92) cx qd_Z_start_92 ?_
          try rw [ix8]
          refine gz_iconst (v := 0) (pc := 93) cx qd_Z_start_93 (by decide) ?_
          refine gz_iastore (pc := 94) cx qd_Z_start_94 (gm_za (by decide) (by decide)) rfl rfl (by omega) (by decide) ?_
          refine gz_iinc (pc := 95) cx qd_Z_start_95 rfl (g_inc k) ?_
          refine gz_goto (tgt := 29) (pc := 98) cx qd_Z_start_98 (by decide) ?_
          rw [zClr_s]
          exact ih
theorem DR.clk {G : gG} {M : mM} {ow : Nat → Bool} {S : gS} (h : DR G M ow S) : DR G (mClk M) ow (gI S (20, 0, 0) 1 (M.1 31 0 0 + 1)) ∧ gFc S (gI S (20, 0, 0) 1 (M.1 31 0 0 + 1)) := by
  obtain ⟨d0, d1, d2, d3, d4, d5, d6, d7, d8, d9, d10, d11, d12, d13, d14, d15, d16, d17, d18, d19, d20, d21, d22, d23, d24, d25, d26⟩ := h
  have g3 : (gI S (20, 0, 0) 1 (M.1 31 0 0 + 1)).1 (20, 0, 0) 1 = (mClk M).1 31 0 0 := by
    unfold mClk
    rw [gI1, if_pos ⟨rfl, rfl⟩, mSet_eq]
  exact ⟨⟨d0, d1, d2, g3, d4, d5, d6, d7, d8, d9, d10, d11, d12, d13, d14, d15, d16, d17, d18, d19, d20, d21, d22, d23, d24, d25, d26⟩, gFc.I (by simp)⟩
theorem gc_Z_ticks {G : gG} {la : Launch} {M : mM} {S : gS} {D : Nat} {x : Int32} (h : DR G M (fun _ => false) S) (hO : mInv G.1 D (fun _ => false) M) (hDD : D + 6000 < 2 ^ 30) : gM G la qy_Z_ticks qw_Z_ticks 6 0 0 (gTt G) (gTt G) [.inr (some (20, 0, 0)), .inl x] S (fun v S' => v = some (.inl (oTicks G.1 M x).2) ∧ DR G (oTicks G.1 M x).1 (fun _ => false) S' ∧ gFc S S') := by
  refine gM_of (cc := qc_Z_ticks) (maxL := 6) (by decide) rfl (Nat.le_of_ble_eq_true rfl) ?_
  intro E cx hr hnm hcz hsz hEl
  subst hEl
  have hD := h
  have h8 := h.2.1.1
  unfold oTicks
  refine gz_iload_n (pc := 0) cx qd_Z_ticks_0 rfl rfl ?_
  refine gz_if_lt (tgt := 10) (pc := 1) cx qd_Z_ticks_1 (by decide) (fun h1 => ?_) (fun h1 => ?_)
  · refine gz_iconst (v := -1) (pc := 10) cx qd_Z_ticks_10 (by decide) ?_
    refine gz_ireturn (pc := 11) cx hr rfl qd_Z_ticks_11 ?_
    rw [if_pos (Or.inl h1)]
    exact ⟨rfl, hD, gFc.rf⟩
  · refine gz_iload_n (pc := 4) cx qd_Z_ticks_4 rfl rfl ?_
    refine gz_bipush (v := 100) (pc := 5) cx qd_Z_ticks_5 (by decide) ?_
    refine gz_icmp_le (tgt := 12) (pc := 7) cx qd_Z_ticks_7 (by decide) (fun h7 => ?_) (fun h7 => ?_)
    · obtain ⟨T, hT, rfl⟩ := nI_of h1
      have hT100 : T ≤ 100 := (nI_leI hT (by decide)).mp h7
      rw [if_neg (fun q => q.elim h1 (fun z => absurd h7 (Int32.not_le.mpr z))), nI_clamp hT]
      have inv : ∀ t, t ≤ T → mInv G.1 (D + 60 * t) (fun _ => false) (mTicks G.1 t (M, 0)).1 := fun t ht => mTicks_inv (q := (M, 0)) hO t (by omega)
      suffices hh : ∀ t, t ≤ T → ∀ S', DR G (mTicks G.1 t (M, 0)).1 (fun _ => false) S' → gFc S S' → gZ G E 0 0 (gEnd G E 0 0 (gTt G) (fun v S' => v = some (.inl (mTicks G.1 T (M, 0)).2) ∧ DR G (mTicks G.1 T (M, 0)).1 (fun _ => false) S' ∧ gFc S S')) (gTt G) 16 [some (.inr (some (20, 0, 0))), some (.inl (nI T)), some (.inl (mTicks G.1 t (M, 0)).2), some (.inl (nI t)), none, none] [] S' by
        refine gz_iconst (v := 0) (pc := 12) cx qd_Z_ticks_12 (by decide) ?_
        refine gz_istore_n (pc := 13) cx qd_Z_ticks_13 rfl (Nat.le_of_ble_eq_true rfl) ?_
        refine gz_iconst (v := 0) (pc := 14) cx qd_Z_ticks_14 (by decide) ?_
        refine gz_istore_n (pc := 15) cx qd_Z_ticks_15 rfl (Nat.le_of_ble_eq_true rfl) ?_
        exact hh 0 (Nat.zero_le _) S hD gFc.rf
      refine g_upto ?_ ?_
      · intro S' hD2 hF2
        refine gz_iload_n (pc := 16) cx qd_Z_ticks_16 rfl rfl ?_
        refine gz_iload_n (pc := 17) cx qd_Z_ticks_17 rfl rfl ?_
        refine gz_icmp_ge (tgt := 108) (pc := 18) cx qd_Z_ticks_18 (by decide) (fun _ => ?_) (fun h18 => absurd (Int32.le_refl _) h18)
        refine gz_iload_n (pc := 108) cx qd_Z_ticks_108 rfl rfl ?_
        refine gz_ireturn (pc := 109) cx hr rfl qd_Z_ticks_109 ?_
        exact ⟨rfl, hD2, hF2⟩
      · intro t ht ih S' hD2 hF2
        have o0 := inv t (by omega)
        have hq : mTicks G.1 (t + 1) (M, 0) = mTick G.1 (mTicks G.1 t (M, 0)) := rfl
        rw [hq] at ih
        have e31 := hD2.2.2.2.1
        obtain ⟨c1, f1⟩ := hD2.clk
        have ep : S'.1 (20, 0, 0) 2 = nI (mTicks G.1 t (M, 0)).1.2.2.length := hD2.2.2.2.2.1.1
        have hl60 := o0.2.1.1
        have oc := o0.clk
        obtain ⟨p, hp⟩ : ∃ p, p = (mTicks G.1 t (M, 0)).1.2.2.length := ⟨_, rfl⟩
        rw [← hp] at ep hl60
        obtain ⟨q1, q2⟩ := mDelF_inv p (c := 0) oc (by rw [hp]; exact Nat.le_refl _)
        have eT : (mTick G.1 (mTicks G.1 t (M, 0))).1 = mTims G.1 G.1 (mDelF G.1 p (mClk (mTicks G.1 t (M, 0)).1) 0).1 := by rw [hp]; rfl
        have eC : (mTick G.1 (mTicks G.1 t (M, 0))).2 = (mTicks G.1 t (M, 0)).2 + (mDelF G.1 p (mClk (mTicks G.1 t (M, 0)).1) 0).2 := by rw [hp]; rfl
        have tims : ∀ k, k ≤ G.1 → ∀ S3, DR G (mTims G.1 k (mDelF G.1 p (mClk (mTicks G.1 t (M, 0)).1) 0).1) (fun _ => false) S3 → gFc S S3 → gZ G E 0 0 (gEnd G E 0 0 (gTt G) (fun v S' => v = some (.inl (mTicks G.1 T (M, 0)).2) ∧ DR G (mTicks G.1 T (M, 0)).1 (fun _ => false) S' ∧ gFc S S')) (gTt G) 71 [some (.inr (some (20, 0, 0))), some (.inl (nI T)), some (.inl (mTick G.1 (mTicks G.1 t (M, 0))).2), some (.inl (nI t)), none, some (.inl (nI k))] [] S3 := by
          refine g_upto ?_ ?_
          · intro S3 hD3 hF3
            have hn3 := hD3.2.2.1
            rw [← eT] at hD3
            refine gz_iload (pc := 71) cx qd_Z_ticks_71 rfl ?_
            refine gz_aload_n (pc := 73) cx qd_Z_ticks_73 rfl rfl ?_
            refine gz_getV (pc := 74) cx qf_Z_86 qd_Z_ticks_74 gm_Z rfl rfl hn3 ?_
            refine gz_icmp_ge (tgt := 102) (pc := 77) cx qd_Z_ticks_77 (by decide) (fun _ => ?_) (fun h77 => absurd (Int32.le_refl _) h77)
            refine gz_iinc (pc := 102) cx qd_Z_ticks_102 rfl (g_inc t) ?_
            refine gz_goto (tgt := 16) (pc := 105) cx qd_Z_ticks_105 (by decide) ?_
            refine gz_weak (lv' := [some (.inr (some (20, 0, 0))), some (.inl (nI T)), some (.inl (mTick G.1 (mTicks G.1 t (M, 0))).2), some (.inl (nI (t + 1))), none, none]) ⟨rfl, rfl, rfl, rfl, trivial⟩ ?_
            exact ih S3 hD3 hF3
          · intro k hk ih2 S3 hD3 hF3
            have hn3 := hD3.2.2.1
            have hst3 := hD3.1
            have o3 := q1.tims (by omega) k (by omega)
            have e24 := hD3.2.2.2.2.2.2.1 k hk trivial
            have hs : mTims G.1 (k + 1) (mDelF G.1 p (mClk (mTicks G.1 t (M, 0)).1) 0).1 = if (mTims G.1 k (mDelF G.1 p (mClk (mTicks G.1 t (M, 0)).1) 0).1).1 15 k 0 = 0 then mTims G.1 k (mDelF G.1 p (mClk (mTicks G.1 t (M, 0)).1) 0).1 else mTimer G.1 (mTims G.1 k (mDelF G.1 p (mClk (mTicks G.1 t (M, 0)).1) 0).1) k ((mTims G.1 k (mDelF G.1 p (mClk (mTicks G.1 t (M, 0)).1) 0).1).1 31 0 0) := rfl
            rw [hs] at ih2
            refine gz_iload (pc := 71) cx qd_Z_ticks_71 rfl ?_
            refine gz_aload_n (pc := 73) cx qd_Z_ticks_73 rfl rfl ?_
            refine gz_getV (pc := 74) cx qf_Z_86 qd_Z_ticks_74 gm_Z rfl rfl hn3 ?_
            refine gz_icmp_ge (tgt := 102) (pc := 77) cx qd_Z_ticks_77 (by decide) (fun h77 => absurd h77 (nI_ge hk (by omega))) (fun _ => ?_)
            refine gz_aload_n (pc := 80) cx qd_Z_ticks_80 rfl rfl ?_
            refine gz_getR (pc := 81) cx qf_Z_20 qd_Z_ticks_81 gm_Z rfl rfl (hst3 _ _ _ rfl) ?_
            refine gz_iload (pc := 84) cx qd_Z_ticks_84 rfl ?_
            refine gz_zaloadV (pc := 86) cx qd_Z_ticks_86 (gm_za (by decide) (by decide)) rfl e24 rfl (by omega) (by decide) ?_
            refine gz_if_eq (tgt := 96) (pc := 87) cx qd_Z_ticks_87 (by decide) (fun h87 => ?_) (fun h87 => ?_)
            · refine gz_iinc (pc := 96) cx qd_Z_ticks_96 rfl (g_inc k) ?_
              refine gz_goto (tgt := 71) (pc := 99) cx qd_Z_ticks_99 (by decide) ?_
              rw [if_pos h87] at ih2
              exact ih2 S3 hD3 hF3
            · refine gz_aload_n (pc := 90) cx qd_Z_ticks_90 rfl rfl ?_
              refine gz_iload (pc := 91) cx qd_Z_ticks_91 rfl ?_
              refine gz_callV (pc := 93) cx qv_Z_179 qd_Z_ticks_93 (gc_Z_time hk hD3 h87 o3 rfl (by omega)) (by decide) rfl gm_Z rfl rfl rfl rfl (Nat.le_of_ble_eq_true rfl) ⟨Nat.zero_le _, Nat.zero_le _⟩ ?_
              rintro _ S4 ⟨rfl, c4, f4⟩
              refine gz_iinc (pc := 96) cx qd_Z_ticks_96 rfl (g_inc k) ?_
              refine gz_goto (tgt := 71) (pc := 99) cx qd_Z_ticks_99 (by decide) ?_
              rw [if_neg h87] at ih2
              exact ih2 S4 c4 (hF3.tr f4)
        have arr : ∀ rem k, k + rem = p → ∀ N S3 c, DR G N (fun _ => false) S3 → gFc S S3 → mInv G.1 (D + 60 * t + k) (fun _ => false) N → rem ≤ N.2.2.length → mDelF G.1 rem N c = mDelF G.1 p (mClk (mTicks G.1 t (M, 0)).1) 0 → gZ G E 0 0 (gEnd G E 0 0 (gTt G) (fun v S' => v = some (.inl (mTicks G.1 T (M, 0)).2) ∧ DR G (mTicks G.1 T (M, 0)).1 (fun _ => false) S' ∧ gFc S S')) (gTt G) 40 [some (.inr (some (20, 0, 0))), some (.inl (nI T)), some (.inl ((mTicks G.1 t (M, 0)).2 + c)), some (.inl (nI t)), some (.inl (nI p)), some (.inl (nI k))] [] S3 := by
          intro rem
          induction rem with
          | zero =>
            intro k hk N S3 c hD3 hF3 hO3 hl he
            have he1 : N = (mDelF G.1 p (mClk (mTicks G.1 t (M, 0)).1) 0).1 := congrArg Prod.fst he
            have he2 : c = (mDelF G.1 p (mClk (mTicks G.1 t (M, 0)).1) 0).2 := congrArg Prod.snd he
            obtain rfl : k = p := by omega
            refine gz_iload (pc := 40) cx qd_Z_ticks_40 rfl ?_
            refine gz_iload (pc := 42) cx qd_Z_ticks_42 rfl ?_
            refine gz_icmp_ge (tgt := 68) (pc := 44) cx qd_Z_ticks_44 (by decide) (fun _ => ?_) (fun h44 => absurd (Int32.le_refl _) h44)
            refine gz_iconst (v := 0) (pc := 68) cx qd_Z_ticks_68 (by decide) ?_
            refine gz_istore (pc := 69) cx qd_Z_ticks_69 (Nat.le_of_ble_eq_true rfl) ?_
            refine gz_weak (lv' := [some (.inr (some (20, 0, 0))), some (.inl (nI T)), some (.inl (mTick G.1 (mTicks G.1 t (M, 0))).2), some (.inl (nI t)), none, some (.inl (nI 0))]) ⟨rfl, rfl, ?_, rfl, rfl, trivial⟩ ?_
            · show some (Sum.inl _) = some (Sum.inl _); rw [he2, eC]
            · exact tims 0 (Nat.zero_le _) S3 (he1 ▸ hD3) hF3
          | succ rem ih2 =>
            intro k hk N S3 c hD3 hF3 hO3 hl he
            have hne : N.2.2 ≠ [] := fun q => by rw [q] at hl; simp at hl
            obtain ⟨o4, l4⟩ := mDel1_inv hO3 hne
            rw [mDelF] at he
            refine gz_iload (pc := 40) cx qd_Z_ticks_40 rfl ?_
            refine gz_iload (pc := 42) cx qd_Z_ticks_42 rfl ?_
            refine gz_icmp_ge (tgt := 68) (pc := 44) cx qd_Z_ticks_44 (by decide) (fun h44 => absurd h44 (nI_ge (by omega) (by omega))) (fun _ => ?_)
            refine gz_iload_n (pc := 47) cx qd_Z_ticks_47 rfl rfl ?_
            refine gz_aload_n (pc := 48) cx qd_Z_ticks_48 rfl rfl ?_
            refine gz_callV (pc := 49) cx qv_Z_175 qd_Z_ticks_49 (gc_Z_arrive hD3 hO3 hne) (by decide) rfl gm_Z rfl rfl rfl rfl (Nat.le_of_ble_eq_true rfl) ⟨Nat.zero_le _, Nat.zero_le _⟩ ?_
            rintro _ S4 ⟨rfl, c4, f4⟩
            refine gz_if_eq (tgt := 59) (pc := 52) cx qd_Z_ticks_52 (by decide) (fun h52 => ?_) (fun h52 => ?_)
            · refine gz_iconst (v := 0) (pc := 59) cx qd_Z_ticks_59 (by decide) ?_
              refine gz_iadd (pc := 60) cx qd_Z_ticks_60 ?_
              refine gz_istore_n (pc := 61) cx qd_Z_ticks_61 rfl (Nat.le_of_ble_eq_true rfl) ?_
              refine gz_iinc (pc := 62) cx qd_Z_ticks_62 rfl (g_inc k) ?_
              refine gz_goto (tgt := 40) (pc := 65) cx qd_Z_ticks_65 (by decide) ?_
              have hz : (mDel1 G.1 N).1 = false := by cases hq : (mDel1 G.1 N).1; rfl; rw [hq] at h52; exact absurd h52 (by decide)
              rw [hz, if_neg (fun q => nomatch q)] at he
              rw [Int32.add_zero]
              exact ih2 (k + 1) (by omega) _ S4 c c4 (hF3.tr f4) (o4.mono (by omega)) (by omega) he
            · refine gz_iconst (v := 1) (pc := 55) cx qd_Z_ticks_55 (by decide) ?_
              refine gz_goto (tgt := 60) (pc := 56) cx qd_Z_ticks_56 (by decide) ?_
              refine gz_iadd (pc := 60) cx qd_Z_ticks_60 ?_
              refine gz_istore_n (pc := 61) cx qd_Z_ticks_61 rfl (Nat.le_of_ble_eq_true rfl) ?_
              refine gz_iinc (pc := 62) cx qd_Z_ticks_62 rfl (g_inc k) ?_
              refine gz_goto (tgt := 40) (pc := 65) cx qd_Z_ticks_65 (by decide) ?_
              have hz : (mDel1 G.1 N).1 = true := by cases hq : (mDel1 G.1 N).1; rw [hq] at h52; exact absurd rfl h52; rfl
              rw [hz, if_pos rfl] at he
              rw [Int32.add_assoc]
              exact ih2 (k + 1) (by omega) _ S4 (c + 1) c4 (hF3.tr f4) (o4.mono (by omega)) (by omega) he
        refine gz_iload_n (pc := 16) cx qd_Z_ticks_16 rfl rfl ?_
        refine gz_iload_n (pc := 17) cx qd_Z_ticks_17 rfl rfl ?_
        refine gz_icmp_ge (tgt := 108) (pc := 18) cx qd_Z_ticks_18 (by decide) (fun h18 => absurd h18 (nI_ge ht (by omega))) (fun _ => ?_)
        refine gz_aload_n (pc := 21) cx qd_Z_ticks_21 rfl rfl ?_
        refine gz_dup (pc := 22) cx qd_Z_ticks_22 ?_
        refine gz_getV (pc := 23) cx qf_Z_112 qd_Z_ticks_23 gm_Z rfl rfl e31 ?_
        refine gz_iconst (v := 1) (pc := 26) cx qd_Z_ticks_26 (by decide) ?_
        refine gz_iadd (pc := 27) cx qd_Z_ticks_27 ?_
        refine gz_putI (pc := 28) cx qp_Z_112 qd_Z_ticks_28 gm_Z rfl rfl ⟨rfl, rfl⟩ (fun h => nomatch h) ?_
        refine gz_aload_n (pc := 31) cx qd_Z_ticks_31 rfl rfl ?_
        refine gz_getV (pc := 32) cx qf_Z_109 qd_Z_ticks_32 gm_Z rfl rfl (show _ = nI p from ep) ?_
        refine gz_istore (pc := 35) cx qd_Z_ticks_35 (Nat.le_of_ble_eq_true rfl) ?_
        refine gz_iconst (v := 0) (pc := 37) cx qd_Z_ticks_37 (by decide) ?_
        refine gz_istore (pc := 38) cx qd_Z_ticks_38 (Nat.le_of_ble_eq_true rfl) ?_
        have ha := arr p 0 (by omega) (mClk (mTicks G.1 t (M, 0)).1) _ 0 c1 (hF2.tr f1) oc (by rw [hp]; exact Nat.le_refl _) rfl
        rw [Int32.add_zero] at ha
        exact ha
    · refine gz_iconst (v := -1) (pc := 10) cx qd_Z_ticks_10 (by decide) ?_
      refine gz_ireturn (pc := 11) cx hr rfl qd_Z_ticks_11 ?_
      rw [if_pos (Or.inr (Int32.not_le.mp h7))]
      exact ⟨rfl, hD, gFc.rf⟩
