/-! what is always so of the pure picture -/
def isB (x : Int32) (k : Nat) : Prop := ∃ v, v ≤ k ∧ x = nI v
def mVm (n : Nat) (msg : List Int32) : Prop := mWf n msg ∧ ∀ t, 7 + 3 * t + 1 < msg.length → ∃ s, 1 ≤ s ∧ s ≤ 3 ∧ msg.getD (7 + (3 * t + 1)) 0 = nI s
def mVt (n : Nat) (M : mM) (i : Nat) : Prop := ∀ j, j < n → isB (M.1 0 i j) 3 ∧ isB (M.1 3 i j) 255 ∧ isB (M.1 4 i j) 4 ∧ (M.1 0 i j = 0 → M.1 1 i j = 0 ∧ M.1 2 i j = 0 ∧ M.1 3 i j = 0 ∧ M.1 4 i j = 0)
def mVo (M : mM) (i : Nat) : Prop := M.1 0 i i = 1 ∧ M.1 3 i i = 0
def mVr (n : Nat) (r : List (List Int32)) : Prop := r.length ≤ 4 ∧ (∀ x ∈ r, isN n (x.getD 1 0) ∧ isN n (x.getD 2 0) ∧ isB (x.getD 3 0) 2) ∧ r.Pairwise (fun a b => b.getD 3 0 ≤ a.getD 3 0)
def mVp (D : Nat) (M : mM) (i : Nat) : Prop := isB (M.1 17 i 0) 4 ∧ isB (M.1 24 i 0) 1 ∧ (M.1 21 i 0 = -1 → M.1 23 i 0 = 0 ∧ M.1 24 i 0 = 0 ∧ ∃ r, 1 ≤ r ∧ r ≤ 5 ∧ M.1 19 i 0 = nI r) ∧ (M.1 21 i 0 ≠ -1 → M.1 21 i 0 ≠ nI i ∧ ∃ c a k, c ≤ 7 ∧ a ≤ 2 ∧ k ≤ D ∧ M.1 23 i 0 = nI c ∧ M.1 25 i 0 = nI a ∧ M.1 26 i 0 = nI k ∧ (c < 3 → a = 0))
def mVn (n D : Nat) (ow : Nat → Bool) (M : mM) (i : Nat) : Prop := mNi n M i ∧ mVt n M i ∧ (ow i = false → mVo M i) ∧ mVr n (M.2.1 i) ∧ mVp D M i
def mVf (n : Nat) (fl : List (List Int32)) : Prop := fl.length ≤ 60 ∧ ∀ msg ∈ fl, mVm n msg
def mInv (n D : Nat) (ow : Nat → Bool) (M : mM) : Prop := (2 ≤ n ∧ n ≤ 8) ∧ mVf n M.2.2 ∧ (∀ i, i < n → isB (M.1 15 i 0) 1) ∧ (∀ i j, i < n → j < n → isB (M.1 30 i j) 1 ∧ M.1 30 i j = M.1 30 j i) ∧ ∀ i, i < n → mRn M i → mVn n D ow M i
/-- only node i, neither its running nor its cuts -/
def mAt (i : Nat) (M M' : mM) : Prop := (∀ f i' j, i' ≠ i ∨ f = 15 ∨ f = 30 ∨ f = 31 → M'.1 f i' j = M.1 f i' j) ∧ (∀ i', i' ≠ i → M'.2.1 i' = M.2.1 i') ∧ M'.2.2 = M.2.2
theorem mAt.rf {i : Nat} {M : mM} : mAt i M M := ⟨fun _ _ _ _ => rfl, fun _ _ => rfl, rfl⟩
theorem mAt.tr {i : Nat} {M M' M'' : mM} (h : mAt i M M') (h2 : mAt i M' M'') : mAt i M M'' := ⟨fun f i' j q => (h2.1 f i' j q).trans (h.1 f i' j q), fun i' q => (h2.2.1 i' q).trans (h.2.1 i' q), h2.2.2.trans h.2.2⟩
theorem mAt.set {i f j : Nat} {v : Int32} {M M' : mM} (h : mAt i M M') (hf : f ≠ 15 ∧ f ≠ 30 ∧ f ≠ 31) : mAt i M (mSet M' f i j v) := h.tr ⟨fun f' i' j' q => mSet_ne (by omega), fun _ _ => rfl, rfl⟩
theorem mAt.rl {i : Nat} {r : List (List Int32)} {M M' : mM} (h : mAt i M M') : mAt i M (mRl M' i r) := h.tr ⟨fun _ _ _ _ => rfl, fun _ q => if_neg q, rfl⟩
theorem mAt.become {i m : Nat} {s inc w : Int32} {M M' : mM} (h : mAt i M M') : mAt i M (mBecome M' i m s inc w) := ((((h.set (by decide)).set (by decide)).set (by decide)).set (by decide)).set (by decide)
theorem mVp.mono {D D' : Nat} {M : mM} {i : Nat} (h : mVp D M i) (hD : D ≤ D') : mVp D' M i := ⟨h.1, h.2.1, h.2.2.1, fun q => by
  obtain ⟨h0, c, a, k, h1, h2, h3, r⟩ := h.2.2.2 q
  exact ⟨h0, c, a, k, h1, h2, by omega, r⟩⟩
theorem mVn.mono {n D D' : Nat} {ow : Nat → Bool} {M : mM} {i : Nat} (h : mVn n D ow M i) (hD : D ≤ D') : mVn n D' ow M i := ⟨h.1, h.2.1, h.2.2.1, h.2.2.2.1, h.2.2.2.2.mono hD⟩
theorem mInv.mono {n D D' : Nat} {ow : Nat → Bool} {M : mM} (h : mInv n D ow M) (hD : D ≤ D') : mInv n D' ow M := ⟨h.1, h.2.1, h.2.2.1, h.2.2.2.1, fun i hi q => (h.2.2.2.2 i hi q).mono hD⟩
theorem mVn.of {n D : Nat} {ow : Nat → Bool} {M M' : mM} {i : Nat} (h : mVn n D ow M i) (h1 : ∀ f j, M'.1 f i j = M.1 f i j) (h2 : M'.2.1 i = M.2.1 i) : mVn n D ow M' i := by
  have e : M'.1 = fun f i' j => if i' = i then M.1 f i j else M'.1 f i' j := by
    funext f i' j
    by_cases q : i' = i
    · subst q; rw [if_pos rfl, h1]
    · rw [if_neg q]
  unfold mVn mNi mVt mVo mVr mVp at h ⊢
  simp only [h1, h2]
  exact h
theorem mInv.upd {n D D' : Nat} {ow : Nat → Bool} {M M' : mM} (h : mInv n D ow M) {i : Nat} (hD : D ≤ D') (ha : mAt i M M') (hi : i < n → mRn M i → mVn n D ow M i → mVn n D' ow M' i) : mInv n D' ow M' := by
  obtain ⟨h1, h2, h3, h4, h5⟩ := h
  refine ⟨h1, by rw [ha.2.2]; exact h2, fun i' hi' => by rw [ha.1 _ _ _ (by omega)]; exact h3 i' hi', fun a b ha' hb' => by rw [ha.1 _ _ _ (by omega), ha.1 _ _ _ (by omega)]; exact h4 a b ha' hb', fun i' hi' q => ?_⟩
  have q' : mRn M i' := by unfold mRn at q ⊢; rw [ha.1 _ _ _ (by omega)] at q; exact q
  by_cases e : i' = i
  · subst e; exact hi hi' q' (h5 _ hi' q')
  · exact ((h5 i' hi' q').mono hD).of (fun f j => ha.1 f i' j (Or.inl e)) (ha.2.1 i' e)
theorem mInv.fl {n D : Nat} {ow : Nat → Bool} {M : mM} (h : mInv n D ow M) {fl : List (List Int32)} (hf : mVf n fl) : mInv n D ow (mFl M fl) := ⟨h.1, hf, h.2.2.1, h.2.2.2.1, fun i hi q => (h.2.2.2.2 i hi q).of (fun _ _ => rfl) rfl⟩
/-! the table of a node -/
theorem isB_0 {k : Nat} : isB 0 k := ⟨0, Nat.zero_le _, rfl⟩
theorem isB_n {v k : Nat} (h : v ≤ k) : isB (nI v) k := ⟨v, h, rfl⟩
theorem mVt.of {n : Nat} {M M' : mM} {i : Nat} (h : mVt n M i) (e : ∀ f j, f < 5 → M'.1 f i j = M.1 f i j) : mVt n M' i := by
  unfold mVt at h ⊢
  intro j hj
  rw [e 0 j (by decide), e 1 j (by decide), e 2 j (by decide), e 3 j (by decide), e 4 j (by decide)]
  exact h j hj
theorem mVt.set {n : Nat} {M : mM} {i f i' j : Nat} {v : Int32} (h : mVt n M i) (hf : 5 ≤ f) : mVt n (mSet M f i' j v) i := h.of (fun f' j' q => mSet_ne (by omega))
theorem mBecome_ne {M : mM} {i j f i' j' : Nat} {s inc w : Int32} (h : ¬ (i' = i ∧ j' = j)) : (mBecome M i j s inc w).1 f i' j' = M.1 f i' j' := by
  unfold mBecome
  rw [mSet_ne (by omega), mSet_ne (by omega), mSet_ne (by omega), mSet_ne (by omega), mSet_ne (by omega)]
theorem mBecome_eq {M : mM} {i j : Nat} {s inc w : Int32} : (mBecome M i j s inc w).1 0 i j = s ∧ (mBecome M i j s inc w).1 1 i j = inc ∧ (mBecome M i j s inc w).1 2 i j = w ∧ (mBecome M i j s inc w).1 3 i j = 0 ∧ (mBecome M i j s inc w).1 4 i j = 4 := by
  unfold mBecome
  refine ⟨?_, ?_, ?_, ?_, ?_⟩ <;> simp [mSet]
theorem mVt.become {n : Nat} {M : mM} {i m s : Nat} {inc w : Int32} (h : mVt n M i) (h1 : 1 ≤ s) (h3 : s ≤ 3) : mVt n (mBecome M i m (nI s) inc w) i := by
  intro j hj
  by_cases e : j = m
  · subst e
    obtain ⟨a, b, c, d, g⟩ := mBecome_eq (M := M) (i := i) (j := j) (s := nI s) (inc := inc) (w := w)
    rw [a, b, c, d, g]
    exact ⟨isB_n h3, isB_0, ⟨4, by omega, rfl⟩, fun q => absurd q (nI_ne0 h1 (by omega))⟩
  · rw [mBecome_ne (by omega), mBecome_ne (by omega), mBecome_ne (by omega), mBecome_ne (by omega), mBecome_ne (by omega)]
    exact h j hj
theorem mVt.conf {n : Nat} {M : mM} {i m : Nat} {v : Int32} (h : mVt n M i) (hs : M.1 0 i m ≠ 0) (hv : isB v 255) : mVt n (mSet M 3 i m v) i := by
  intro j hj
  by_cases e : j = m
  · subst e
    rw [mSet_ne (by omega), mSet_eq, mSet_ne (by omega)]
    exact ⟨(h j hj).1, hv, (h j hj).2.2.1, fun q => absurd q hs⟩
  · rw [mSet_ne (by omega), mSet_ne (by omega), mSet_ne (by omega), mSet_ne (by omega), mSet_ne (by omega)]
    exact h j hj
theorem mVt.send4 {n : Nat} {M : mM} {i m : Nat} (h : mVt n M i) (hs : M.1 0 i m ≠ 0) : mVt n (mSet M 4 i m 4) i := by
  intro j hj
  by_cases e : j = m
  · subst e
    rw [mSet_ne (by omega), mSet_ne (by omega), mSet_eq]
    exact ⟨(h j hj).1, (h j hj).2.1, ⟨4, by omega, rfl⟩, fun q => absurd q hs⟩
  · rw [mSet_ne (by omega), mSet_ne (by omega), mSet_ne (by omega), mSet_ne (by omega), mSet_ne (by omega)]
    exact h j hj
theorem mBit_dec : ∀ b, b < 8 → mBit (nI b) = nI (2 ^ b) ∧ 2 ^ b ≤ 255 := by decide +kernel
theorem mBit_or : ∀ x, x < 256 → ∀ b, b < 8 → nI x ||| mBit (nI b) = nI (x ||| 2 ^ b) ∧ x ||| 2 ^ b < 256 := fun x hx b hb => ⟨(isMk_dec x hx b hb).1, (isMk_dec x hx b hb).2.1⟩
theorem isB_bit {n : Nat} {x : Int32} (hn : n ≤ 8) (h : isN n x) : isB (mBit x) 255 := by
  obtain ⟨b, hb, rfl⟩ := h
  obtain ⟨e, q⟩ := mBit_dec b (by omega)
  exact ⟨_, q, e⟩
theorem isB_or {n : Nat} {x y : Int32} (hn : n ≤ 8) (h : isN n x) (hy : isB y 255) : isB (y ||| mBit x) 255 := by
  obtain ⟨b, hb, rfl⟩ := h
  obtain ⟨v, hv, rfl⟩ := hy
  obtain ⟨e, q⟩ := mBit_or v (by omega) b (by omega)
  exact ⟨_, by omega, e⟩
theorem mVp.of {D : Nat} {M M' : mM} {i : Nat} (h : mVp D M i) (e : ∀ f, 5 ≤ f → M'.1 f i 0 = M.1 f i 0) : mVp D M' i := by
  unfold mVp at h ⊢
  rw [e 17 (by decide), e 24 (by decide), e 21 (by decide), e 23 (by decide), e 19 (by decide), e 25 (by decide), e 26 (by decide)]
  exact h
theorem isB_min4 {x : Int32} (h : isB x 4) : isB (mMin4 (x + 1)) 4 := by
  obtain ⟨v, hv, rfl⟩ := h
  exact (by decide +kernel : ∀ v, v ≤ 4 → ∃ u, u ≤ 4 ∧ mMin4 (nI v + 1) = nI u) v hv
theorem mVp.score {D : Nat} {M : mM} {i : Nat} {v : Int32} (h : mVp D M i) (hv : isB v 4) : mVp D (mSet M 17 i 0 v) i := by
  unfold mVp at h ⊢
  rw [mSet_eq, mSet_ne (by omega), mSet_ne (by omega), mSet_ne (by omega), mSet_ne (by omega), mSet_ne (by omega), mSet_ne (by omega)]
  exact ⟨hv, h.2⟩
/-! news that come in -/
theorem mInv.learn {n D : Nat} {ow : Nat → Bool} {M : mM} (h : mInv n D ow M) {i m s : Nat} {inc fr w : Int32} (how : ow i = false) (h1 : 1 ≤ s) (h3 : s ≤ 3) (hfr : isN n fr) : mInv n D ow (mLearn M i m (nI s) inc fr w) ∧ mAt i M (mLearn M i m (nI s) inc fr w) := by
  have h8 := h.1.2
  unfold mLearn
  by_cases e : m = i
  · rw [if_pos e]
    by_cases e1 : nI s = 1
    · rw [if_pos e1]; exact ⟨h, mAt.rf⟩
    · rw [if_neg e1]
      by_cases e2 : M.1 1 i i ≤ inc
      · rw [if_pos e2]
        have ha : mAt i M (mSet (mSet (mBecome M i i 1 (inc + 1) w) 17 i 0 (mMin4 (M.1 17 i 0 + 1))) 4 i i 4) := ((mAt.rf.become).set (by decide)).set (by decide)
        refine ⟨h.upd (i := i) (Nat.le_refl _) ha (fun hi hr ⟨v1, v2, v3, v4, v5⟩ => ⟨?_, ?_, ?_, ?_, ?_⟩), ha⟩
        · exact v1.of (by rw [mSet_ne (by omega), mSet_ne (by omega), mBecome_1 (by decide)]) (by rw [mSet_ne (by omega), mSet_ne (by omega), mBecome_1 (by decide)]) (by rw [mSet_ne (by omega), mSet_ne (by omega), mBecome_1 (by decide)])
        · have t := ((v2.become (m := i) (s := 1) (inc := inc + 1) (w := w) (by decide) (by decide)).set (f := 17) (i' := i) (j := 0) (v := mMin4 (M.1 17 i 0 + 1)) (by decide))
          refine t.send4 ?_
          rw [mSet_ne (by omega), mBecome_eq.1]
          exact nI_ne0 (by decide) (by decide)
        · intro _
          refine ⟨?_, ?_⟩
          · rw [mSet_ne (by omega), mSet_ne (by omega), mBecome_eq.1]
          · rw [mSet_ne (by omega), mSet_ne (by omega), mBecome_eq.2.2.2.1]
        · exact v4
        · have t := (v5.of (M' := mBecome M i i 1 (inc + 1) w) (fun f hf => mBecome_1 hf)).score (isB_min4 v5.1)
          exact t.of (fun f hf => mSet_ne (by omega))
      · rw [if_neg e2]
        have ha : mAt i M (mSet M 4 i i 4) := mAt.rf.set (by decide)
        refine ⟨h.upd (i := i) (Nat.le_refl _) ha (fun hi hr ⟨v1, v2, v3, v4, v5⟩ => ⟨?_, ?_, ?_, ?_, ?_⟩), ha⟩
        · exact v1.of (mSet_ne (by omega)) (mSet_ne (by omega)) (mSet_ne (by omega))
        · exact v2.send4 (by rw [(v3 how).1]; decide)
        · intro q
          exact ⟨by rw [mSet_ne (by omega)]; exact (v3 q).1, by rw [mSet_ne (by omega)]; exact (v3 q).2⟩
        · exact v4
        · exact v5.of (fun f hf => mSet_ne (by omega))
  · rw [if_neg e]
    have bec : mInv n D ow (mBecome M i m (nI s) inc w) := h.upd (i := i) (Nat.le_refl _) (mAt.rf.become) (fun hi hr ⟨v1, v2, v3, v4, v5⟩ => ⟨v1.of (mBecome_1 (by decide)) (mBecome_1 (by decide)) (mBecome_1 (by decide)), v2.become h1 h3, fun q => ⟨by rw [mBecome_ne (by omega)]; exact (v3 q).1, by rw [mBecome_ne (by omega)]; exact (v3 q).2⟩, v4, v5.of (fun f hf => mBecome_1 hf)⟩)
    have cnf : ∀ (N : mM) (v : Int32), mInv n D ow N → N.1 0 i m ≠ 0 → (i < n → mRn N i → isB v 255) → mInv n D ow (mSet N 3 i m v) := fun N v hN hs hv => hN.upd (i := i) (Nat.le_refl _) (mAt.rf.set (by decide)) (fun hi hr ⟨v1, v2, v3, v4, v5⟩ => ⟨v1.of (mSet_ne (by omega)) (mSet_ne (by omega)) (mSet_ne (by omega)), v2.conf hs (hv hi hr), fun q => ⟨by rw [mSet_ne (by omega)]; exact (v3 q).1, by rw [mSet_ne (by omega)]; exact (v3 q).2⟩, v4, v5.of (fun f hf => mSet_ne (by omega))⟩)
    by_cases e1 : M.1 0 i m = 0 ∨ M.1 1 i m < inc ∨ (inc = M.1 1 i m ∧ M.1 0 i m < nI s)
    · rw [if_pos e1]
      by_cases e2 : nI s = 2
      · rw [if_pos e2, ← e2]
        exact ⟨cnf _ _ bec (by rw [mBecome_eq.1]; exact nI_ne0 h1 (by omega)) (fun _ _ => isB_bit h8 hfr), mAt.rf.become.set (by decide)⟩
      · rw [if_neg e2]; exact ⟨bec, mAt.rf.become⟩
    · rw [if_neg e1]
      by_cases e2 : M.1 0 i m = 2 ∧ nI s = 2 ∧ inc = M.1 1 i m
      · rw [if_pos e2]
        refine ⟨?_, mAt.rf.set (by decide)⟩
        by_cases hm : m < n
        · exact cnf _ _ h (by rw [e2.1]; decide) (fun hi hr => isB_or h8 hfr ((h.2.2.2.2 i hi hr).2.1 m hm).2.1)
        · refine h.upd (i := i) (Nat.le_refl _) (mAt.rf.set (by decide)) (fun hi hr ⟨v1, v2, v3, v4, v5⟩ => ⟨v1.of (mSet_ne (by omega)) (mSet_ne (by omega)) (mSet_ne (by omega)), fun j hj => ?_, fun q => ⟨by rw [mSet_ne (by omega)]; exact (v3 q).1, by rw [mSet_ne (by omega)]; exact (v3 q).2⟩, v4, v5.of (fun f hf => mSet_ne (by omega))⟩)
          rw [mSet_ne (by omega), mSet_ne (by omega), mSet_ne (by omega), mSet_ne (by omega), mSet_ne (by omega)]
          exact v2 j hj
      · rw [if_neg e2]; exact ⟨h, mAt.rf⟩
