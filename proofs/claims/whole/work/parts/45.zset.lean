/-! single stores of the reference, lifted -/
section GZ4
variable {G : gG} {E : gEnv} {cells slots : Nat} {Q : State → Prop} {t pc : Nat} {lv : List (Option gV)} {st : List gV} {S : gS} {cc : ByteArray} {nL : Nat} {own : String} {d : Nat}
theorem gz_ialoadV (cx : gC G E cc nL own d) {k : gK} {x v : Int32} {j n : Nat} (hd : decode cc pc = .ok (.iaload, 1)) (hk : k ∈ gKs G t) (hs : gSh G.1 k = .inr (0, n)) (hv : S.1 k j = v) (hx : x = nI j) (hj : j < n) (hn : n < 2 ^ 31)
    (kk : gZ G E cells slots Q t (pc + 1) lv (.inl v :: st) S) : gZ G E cells slots Q t pc lv (.inl x :: .inr (some k) :: st) S := by
  subst hv
  exact gz_iaload cx hd hk hs hx hj hn kk
theorem gz_zaloadV (cx : gC G E cc nL own d) {k : gK} {x v : Int32} {j n : Nat} (hd : decode cc pc = .ok (.baload, 1)) (hk : k ∈ gKs G t) (hs : gSh G.1 k = .inr (1, n)) (hv : S.1 k j = v) (hx : x = nI j) (hj : j < n) (hn : n < 2 ^ 31)
    (kk : gZ G E cells slots Q t (pc + 1) lv (.inl v :: st) S) : gZ G E cells slots Q t pc lv (.inl x :: .inr (some k) :: st) S := by
  subst hv
  exact gz_zaload cx hd hk hs hx hj hn kk
end GZ4
theorem C64.set {G : gG} {S : gS} {M : mM} {K f : Nat} {Pr Pr' : Nat → Nat → Prop} {i j : Nat} {v : Int32} (h : C64 G S M K f Pr) (h8 : G.1 ≤ 8) (hj : j < 8) (hp : ∀ i' j', i' < G.1 → j' < G.1 → ¬ (i' = i ∧ j' = j) → Pr' i' j' → Pr i' j') : C64 G (gI S (K, 0, 0) (8 * i + j) v) (mSet M f i j v) K f Pr' := by
  intro i' j' hi' hj' q
  rw [gI1]
  by_cases e : i' = i ∧ j' = j
  · obtain ⟨rfl, rfl⟩ := e
    rw [if_pos ⟨rfl, rfl⟩, mSet_eq]
  · rw [if_neg (fun z => e (by have := z.2; omega)), mSet_ne (fun z => e z.2)]
    exact h i' j' hi' hj' (hp i' j' hi' hj' e q)
/-- a store that M needn't know -/
theorem C64.keep {G : gG} {S : gS} {M : mM} {K f : Nat} {Pr Pr' : Nat → Nat → Prop} {i j : Nat} {v : Int32} (h : C64 G S M K f Pr) (h8 : G.1 ≤ 8) (hj : j < 8) (hv : Pr' i j → v = M.1 f i j) (hp : ∀ i' j', i' < G.1 → j' < G.1 → ¬ (i' = i ∧ j' = j) → Pr' i' j' → Pr i' j') : C64 G (gI S (K, 0, 0) (8 * i + j) v) M K f Pr' := by
  intro i' j' hi' hj' q
  rw [gI1]
  by_cases e : i' = i ∧ j' = j
  · obtain ⟨rfl, rfl⟩ := e
    rw [if_pos ⟨rfl, rfl⟩, hv q]
  · rw [if_neg (fun z => e (by have := z.2; omega))]
    exact h i' j' hi' hj' (hp i' j' hi' hj' e q)
/-- M says what the cell says already -/
theorem C64.same {G : gG} {S : gS} {M : mM} {K f : Nat} {Pr Pr' : Nat → Nat → Prop} {i j : Nat} {v : Int32} (h : C64 G S M K f Pr) (hv : i < G.1 → j < G.1 → Pr' i j → S.1 (K, 0, 0) (8 * i + j) = v) (hp : ∀ i' j', i' < G.1 → j' < G.1 → ¬ (i' = i ∧ j' = j) → Pr' i' j' → Pr i' j') : C64 G S (mSet M f i j v) K f Pr' := by
  intro i' j' hi' hj' q
  by_cases e : i' = i ∧ j' = j
  · obtain ⟨rfl, rfl⟩ := e
    rw [mSet_eq]; exact hv hi' hj' q
  · rw [mSet_ne (fun z => e z.2)]
    exact h i' j' hi' hj' (hp i' j' hi' hj' e q)
theorem C64.imp {G : gG} {S : gS} {M : mM} {K f : Nat} {Pr Pr' : Nat → Nat → Prop} (h : C64 G S M K f Pr) (hp : ∀ i' j', i' < G.1 → j' < G.1 → Pr' i' j' → Pr i' j') : C64 G S M K f Pr' := fun i j hi hj q => h i j hi hj (hp i j hi hj q)
theorem C8.set {G : gG} {S : gS} {M : mM} {K f : Nat} {Pr Pr' : Nat → Prop} {i : Nat} {v : Int32} (h : C8 G S M K f Pr) (hp : ∀ i', i' < G.1 → i' ≠ i → Pr' i' → Pr i') : C8 G (gI S (K, 0, 0) i v) (mSet M f i 0 v) K f Pr' := by
  intro i' hi' q
  rw [gI1]
  by_cases e : i' = i
  · subst e
    rw [if_pos ⟨rfl, rfl⟩, mSet_eq]
  · rw [if_neg (fun z => e z.2), mSet_ne (fun z => e z.2.1)]
    exact h i' hi' (hp i' hi' e q)
theorem C8.imp {G : gG} {S : gS} {M : mM} {K f : Nat} {Pr Pr' : Nat → Prop} (h : C8 G S M K f Pr) (hp : ∀ i', i' < G.1 → Pr' i' → Pr i') : C8 G S M K f Pr' := fun i hi q => h i hi (hp i hi q)
def zAnn (S : gS) (i m : Nat) (s inc : Int32) : gS := gI (gI (gI S (31, 0, 0) (8 * i + m) 4) (32, 0, 0) (8 * i + m) s) (33, 0, 0) (8 * i + m) inc
def zEnt (S : gS) (i m : Nat) (s inc w cf : Int32) : gS := zAnn (gI (gI (gI (gI S (27, 0, 0) (8 * i + m) s) (28, 0, 0) (8 * i + m) inc) (29, 0, 0) (8 * i + m) w) (30, 0, 0) (8 * i + m) cf) i m s inc
theorem DR.enter {G : gG} {M : mM} {ow : Nat → Bool} {S : gS} (h : DR G M ow S) {i m : Nat} (hm : m < G.1) (s inc w cf : Int32) : DR G (mSet (mSet (mSet (mSet (mSet M 0 i m s) 1 i m inc) 2 i m w) 3 i m cf) 4 i m 4) ow (zEnt S i m s inc w cf) ∧ gFc S (zEnt S i m s inc w cf) := by
  obtain ⟨d0, d1, d2, d3, d4, d5, d6, d7, d8, d9, d10, d11, d12, d13, d14, d15, d16, d17, d18, d19, d20, d21, d22, d23, d24, d25, d26⟩ := h
  have h8 := d1.1
  have hm8 : m < 8 := by omega
  have n4 : ∀ (N : mM) i2 j2, ¬ (i2 = i ∧ j2 = m) → (mSet N 4 i m 4).1 4 i2 j2 = N.1 4 i2 j2 := fun N i2 j2 hne => mSet_ne (fun z => hne z.2)
  have e25 : C64 G (gI S (32, 0, 0) (8 * i + m) s) (mSet M 0 i m s) 32 0 (mNw (mSet (mSet (mSet (mSet (mSet M 0 i m s) 1 i m inc) 2 i m w) 3 i m cf) 4 i m 4)) := d25.set h8 hm8 (fun i2 j2 _ _ hne q => ⟨q.1, by have := q.2; rw [n4 _ _ _ hne] at this; exact this⟩)
  have e26 : C64 G (gI S (33, 0, 0) (8 * i + m) inc) (mSet M 1 i m inc) 33 1 (mNw (mSet (mSet (mSet (mSet (mSet M 0 i m s) 1 i m inc) 2 i m w) 3 i m cf) 4 i m 4)) := d26.set h8 hm8 (fun i2 j2 _ _ hne q => ⟨q.1, by have := q.2; rw [n4 _ _ _ hne] at this; exact this⟩)
  have e20 : C64 G (gI S (27, 0, 0) (8 * i + m) s) (mSet M 0 i m s) 27 0 (mOw M ow) := d20.set h8 hm8 (fun _ _ _ _ _ q => q)
  have e21 : C64 G (gI S (28, 0, 0) (8 * i + m) inc) (mSet M 1 i m inc) 28 1 (fun i _ => mRn M i) := d21.set h8 hm8 (fun _ _ _ _ _ q => q)
  have e22 : C64 G (gI S (29, 0, 0) (8 * i + m) w) (mSet M 2 i m w) 29 2 (mOw M ow) := d22.set h8 hm8 (fun _ _ _ _ _ q => q)
  have e23 : C64 G (gI S (30, 0, 0) (8 * i + m) cf) (mSet M 3 i m cf) 30 3 (mOw M ow) := d23.set h8 hm8 (fun _ _ _ _ _ q => q)
  have e24 : C64 G (gI S (31, 0, 0) (8 * i + m) 4) (mSet M 4 i m 4) 31 4 (fun i _ => mRn M i) := d24.set h8 hm8 (fun _ _ _ _ _ q => q)
  exact ⟨⟨d0, d1, d2, d3, d4, d5, d6, d7, d8, d9, d10, d11, d12, d13, d14, d15, d16, d17, d18, d19, e20, e21, e22, e23, e24, e25, e26⟩, ((((((gFc.I (by simp)).tr (gFc.I (by simp))).tr (gFc.I (by simp))).tr (gFc.I (by simp))).tr (gFc.I (by simp))).tr (gFc.I (by simp))).tr (gFc.I (by simp))⟩
theorem DR.ann {G : gG} {M : mM} {ow : Nat → Bool} {S : gS} (h : DR G M ow S) {i m : Nat} (hm : m < G.1) : DR G (mSet M 4 i m 4) ow (zAnn S i m (M.1 0 i m) (M.1 1 i m)) ∧ gFc S (zAnn S i m (M.1 0 i m) (M.1 1 i m)) := by
  obtain ⟨d0, d1, d2, d3, d4, d5, d6, d7, d8, d9, d10, d11, d12, d13, d14, d15, d16, d17, d18, d19, d20, d21, d22, d23, d24, d25, d26⟩ := h
  have h8 := d1.1
  have hm8 : m < 8 := by omega
  have n4 : ∀ (N : mM) i2 j2, ¬ (i2 = i ∧ j2 = m) → (mSet N 4 i m 4).1 4 i2 j2 = N.1 4 i2 j2 := fun N i2 j2 hne => mSet_ne (fun z => hne z.2)
  have e24 : C64 G (gI S (31, 0, 0) (8 * i + m) 4) (mSet M 4 i m 4) 31 4 (fun i _ => mRn M i) := d24.set h8 hm8 (fun _ _ _ _ _ q => q)
  have e25 : C64 G (gI S (32, 0, 0) (8 * i + m) (M.1 0 i m)) M 32 0 (mNw (mSet M 4 i m 4)) := d25.keep h8 hm8 (fun _ => rfl) (fun i2 j2 _ _ hne q => ⟨q.1, by have := q.2; rw [n4 _ _ _ hne] at this; exact this⟩)
  have e26 : C64 G (gI S (33, 0, 0) (8 * i + m) (M.1 1 i m)) M 33 1 (mNw (mSet M 4 i m 4)) := d26.keep h8 hm8 (fun _ => rfl) (fun i2 j2 _ _ hne q => ⟨q.1, by have := q.2; rw [n4 _ _ _ hne] at this; exact this⟩)
  exact ⟨⟨d0, d1, d2, d3, d4, d5, d6, d7, d8, d9, d10, d11, d12, d13, d14, d15, d16, d17, d18, d19, d20, d21, d22, d23, e24, e25, e26⟩, ((gFc.I (by simp)).tr (gFc.I (by simp))).tr (gFc.I (by simp))⟩
theorem DR.conf {G : gG} {M : mM} {ow : Nat → Bool} {S : gS} (h : DR G M ow S) {i m : Nat} (hm : m < G.1) (v : Int32) : DR G (mSet M 3 i m v) ow (gI S (30, 0, 0) (8 * i + m) v) ∧ gFc S (gI S (30, 0, 0) (8 * i + m) v) := by
  obtain ⟨d0, d1, d2, d3, d4, d5, d6, d7, d8, d9, d10, d11, d12, d13, d14, d15, d16, d17, d18, d19, d20, d21, d22, d23, d24, d25, d26⟩ := h
  have h8 := d1.1
  have hm8 : m < 8 := by omega
  have e23 : C64 G (gI S (30, 0, 0) (8 * i + m) v) (mSet M 3 i m v) 30 3 (mOw M ow) := d23.set h8 hm8 (fun _ _ _ _ _ q => q)
  exact ⟨⟨d0, d1, d2, d3, d4, d5, d6, d7, d8, d9, d10, d11, d12, d13, d14, d15, d16, d17, d18, d19, d20, d21, d22, e23, d24, d25, d26⟩, gFc.I (by simp)⟩
theorem DR.score {G : gG} {M : mM} {ow : Nat → Bool} {S : gS} (h : DR G M ow S) {i : Nat} (v : Int32) : DR G (mSet M 17 i 0 v) ow (gI S (26, 0, 0) i v) ∧ gFc S (gI S (26, 0, 0) i v) := by
  obtain ⟨d0, d1, d2, d3, d4, d5, d6, d7, d8, d9, d10, d11, d12, d13, d14, d15, d16, d17, d18, d19, d20, d21, d22, d23, d24, d25, d26⟩ := h
  have e8 : C8 G (gI S (26, 0, 0) i v) (mSet M 17 i 0 v) 26 17 (mRn M) := d8.set (fun _ _ _ q => q)
  exact ⟨⟨d0, d1, d2, d3, d4, d5, d6, d7, e8, d9, d10, d11, d12, d13, d14, d15, d16, d17, d18, d19, d20, d21, d22, d23, d24, d25, d26⟩, gFc.I (by simp)⟩
/-- one's own entry is told anew: it was alive, and nobody's suspicion -/
theorem DR.own {G : gG} {M : mM} {ow : Nat → Bool} {S : gS} (h : DR G M ow S) {i : Nat} (hi : i < G.1) (hrun : mRn M i) (how : ow i = false) (h0 : M.1 0 i i = 1) (h3 : M.1 3 i i = 0) (inc w : Int32) : DR G (mBecome M i i 1 inc w) ow (zAnn (gI (gI S (28, 0, 0) (8 * i + i) inc) (29, 0, 0) (8 * i + i) w) i i 1 inc) ∧ gFc S (zAnn (gI (gI S (28, 0, 0) (8 * i + i) inc) (29, 0, 0) (8 * i + i) w) i i 1 inc) := by
  obtain ⟨d0, d1, d2, d3, d4, d5, d6, d7, d8, d9, d10, d11, d12, d13, d14, d15, d16, d17, d18, d19, d20, d21, d22, d23, d24, d25, d26⟩ := h
  have h8 := d1.1
  have hm8 : i < 8 := by omega
  have hOw : mOw M ow i i := ⟨hrun, fun q => by rw [how] at q; cases q.1⟩
  have n4 : ∀ (N : mM) i2 j2, ¬ (i2 = i ∧ j2 = i) → (mSet N 4 i i 4).1 4 i2 j2 = N.1 4 i2 j2 := fun N i2 j2 hne => mSet_ne (fun z => hne z.2)
  have e20 : C64 G S (mSet M 0 i i 1) 27 0 (mOw M ow) := d20.same (fun hi _ q => (d20 i i hi hi q).trans h0) (fun _ _ _ _ _ q => q)
  have e21 : C64 G (gI S (28, 0, 0) (8 * i + i) inc) (mSet M 1 i i inc) 28 1 (fun i _ => mRn M i) := d21.set h8 hm8 (fun _ _ _ _ _ q => q)
  have e22 : C64 G (gI S (29, 0, 0) (8 * i + i) w) (mSet M 2 i i w) 29 2 (mOw M ow) := d22.set h8 hm8 (fun _ _ _ _ _ q => q)
  have e23 : C64 G S (mSet M 3 i i 0) 30 3 (mOw M ow) := d23.same (fun hi _ q => (d23 i i hi hi q).trans h3) (fun _ _ _ _ _ q => q)
  have e24 : C64 G (gI S (31, 0, 0) (8 * i + i) 4) (mSet M 4 i i 4) 31 4 (fun i _ => mRn M i) := d24.set h8 hm8 (fun _ _ _ _ _ q => q)
  have e25 : C64 G (gI S (32, 0, 0) (8 * i + i) 1) (mSet M 0 i i 1) 32 0 (mNw (mBecome M i i 1 inc w)) := d25.set h8 hm8 (fun i2 j2 _ _ hne q => ⟨q.1, by have := q.2; unfold mBecome at this; rw [n4 _ _ _ hne] at this; exact this⟩)
  have e26 : C64 G (gI S (33, 0, 0) (8 * i + i) inc) (mSet M 1 i i inc) 33 1 (mNw (mBecome M i i 1 inc w)) := d26.set h8 hm8 (fun i2 j2 _ _ hne q => ⟨q.1, by have := q.2; unfold mBecome at this; rw [n4 _ _ _ hne] at this; exact this⟩)
  exact ⟨⟨d0, d1, d2, d3, d4, d5, d6, d7, d8, d9, d10, d11, d12, d13, d14, d15, d16, d17, d18, d19, e20, e21, e22, e23, e24, e25, e26⟩, ((((gFc.I (by simp)).tr (gFc.I (by simp))).tr (gFc.I (by simp))).tr (gFc.I (by simp))).tr (gFc.I (by simp))⟩
