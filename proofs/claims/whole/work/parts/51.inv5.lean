/-! start and leave keep it -/
theorem mBegin_ne {n : Nat} {M : mM} {i i' f j : Nat} {w : Int32} (h : i' ≠ i) : (mBegin n M i w).1 f i' j = M.1 f i' j := by
  unfold mBegin mBecome
  simp only [mRl, mSet]
  simp only [h, false_and, and_false, if_false]
  exact mForget_ne (Or.inl h)
theorem mBegin_f {n : Nat} {M : mM} {i : Nat} {w : Int32} : (mBegin n M i w).1 15 i 0 = 1 ∧ (mBegin n M i w).1 16 i 0 = w ∧ (mBegin n M i w).1 17 i 0 = 0 ∧ (mBegin n M i w).1 19 i 0 = 2 ∧ (mBegin n M i w).1 20 i 0 = 0 ∧ (mBegin n M i w).1 21 i 0 = -1 ∧ (mBegin n M i w).1 22 i 0 = nI i ∧ (mBegin n M i w).1 23 i 0 = 0 ∧ (mBegin n M i w).1 24 i 0 = 0 ∧ (mBegin n M i w).1 27 i 0 = nI i := by
  unfold mBegin
  refine ⟨?_, ?_, ?_, ?_, ?_, ?_, ?_, ?_, ?_, ?_⟩ <;> simp [mSet, mRl]
theorem mBegin_e {n : Nat} {M : mM} {i : Nat} {w : Int32} {f j : Nat} (hf : f < 5) : (mBegin n M i w).1 f i j = (mBecome (mForget M i n) i i 1 0 w).1 f i j := by
  unfold mBegin
  simp only [mRl]
  simp only [mSet, show f ≠ 27 by omega, show f ≠ 26 by omega, show f ≠ 25 by omega, show f ≠ 24 by omega, show f ≠ 23 by omega, show f ≠ 22 by omega, show f ≠ 21 by omega, show f ≠ 20 by omega, show f ≠ 19 by omega, show f ≠ 17 by omega, show f ≠ 16 by omega, show f ≠ 15 by omega, false_and, if_false]
theorem mBegin_h {n : Nat} {M : mM} {i : Nat} {w : Int32} {f i' j : Nat} (hf : 28 ≤ f) : (mBegin n M i w).1 f i' j = M.1 f i' j := by
  unfold mBegin
  simp only [mRl]
  rw [mSet_ne (by omega), mSet_ne (by omega), mSet_ne (by omega), mSet_ne (by omega), mSet_ne (by omega), mSet_ne (by omega), mSet_ne (by omega), mSet_ne (by omega), mSet_ne (by omega)]
  show (mSet (mSet (mSet _ 15 i 0 1) 16 i 0 w) 17 i 0 0).1 f i' j = _
  rw [mSet_ne (by omega), mSet_ne (by omega), mSet_ne (by omega), mBecome_1 (by omega), mForget_ne (by omega)]
theorem mBegin_r {n : Nat} {M : mM} {i : Nat} {w : Int32} : (mBegin n M i w).2 = (fun i' => if i' = i then [] else M.2.1 i', M.2.2) := by
  unfold mBegin mBecome
  show (fun i' => if i' = i then [] else (mForget M i n).2.1 i', (mForget M i n).2.2) = _
  rw [mForget_2]
theorem mInv.begin_ {n D : Nat} {ow : Nat → Bool} {M : mM} (h : mInv n D ow M) {i : Nat} {w : Int32} (hi : i < n) : mInv n D ow (mBegin n M i w) := by
  have h8 := h.1.2
  obtain ⟨f15, f16, f17, f19, f20, f21, f22, f23, f24, f27⟩ := mBegin_f (n := n) (M := M) (i := i) (w := w)
  obtain ⟨b0, b1, b2, b3, b4⟩ := mBecome_eq (M := mForget M i n) (i := i) (j := i) (s := 1) (inc := 0) (w := w)
  refine ⟨h.1, by rw [mBegin_r]; exact h.2.1, fun i' hi' => ?_, fun a b ha hb => ?_, fun i' hi' q => ?_⟩
  · by_cases e : i' = i
    · subst e; rw [f15]; exact ⟨1, by omega, rfl⟩
    · rw [mBegin_ne e]; exact h.2.2.1 i' hi'
  · rw [mBegin_h (by decide), mBegin_h (by decide)]; exact h.2.2.2.1 a b ha hb
  · by_cases e : i' = i
    · subst e
      refine ⟨⟨⟨i', hi, f22⟩, ⟨i', hi, f27⟩, Or.inl f21⟩, fun j hj => ?_, fun _ => ⟨?_, ?_⟩, ?_, ?_⟩
      · rw [mBegin_e (by decide), mBegin_e (by decide), mBegin_e (by decide), mBegin_e (by decide), mBegin_e (by decide)]
        by_cases e : j = i'
        · subst e
          rw [b0, b1, b2, b3, b4]
          exact ⟨⟨1, by omega, rfl⟩, isB_0, ⟨4, by omega, rfl⟩, fun z => absurd z (by decide)⟩
        · rw [mBecome_ne (by omega), mBecome_ne (by omega), mBecome_ne (by omega), mBecome_ne (by omega), mBecome_ne (by omega), mForget_eq hj (by decide), mForget_eq hj (by decide), mForget_eq hj (by decide), mForget_eq hj (by decide), mForget_eq hj (by decide)]
          exact ⟨isB_0, isB_0, isB_0, fun _ => ⟨rfl, rfl, rfl, rfl⟩⟩
      · rw [mBegin_e (by decide)]; exact b0
      · rw [mBegin_e (by decide)]; exact b3
      · rw [mBegin_r]
        show mVr n (if i' = i' then [] else _)
        rw [if_pos rfl]; exact mVr_nil
      · unfold mVp
        rw [f17, f19, f21, f23, f24]
        exact ⟨isB_0, isB_0, fun _ => ⟨rfl, rfl, 2, by omega, by omega, rfl⟩, fun z => absurd rfl z⟩
    · have q' : mRn M i' := by unfold mRn at q ⊢; rw [mBegin_ne e] at q; exact q
      refine (h.2.2.2.2 i' hi' q').of (fun f j => mBegin_ne e) ?_
      rw [mBegin_r]
      exact if_neg e
theorem oStart_inv {n D : Nat} {ow : Nat → Bool} {M : mM} (h : mInv n D ow M) {a b : Int32} : mInv n D ow (oStart n M a b).2 := by
  have h8 := h.1.2
  unfold oStart
  split
  · rename_i q
    obtain ⟨i, hi, rfl⟩ := (mIs_iff (by omega)).mp q.1
    obtain ⟨k, hk, rfl⟩ := (mIs_iff (by omega)).mp q.2.1
    rw [nI_clamp (by omega)]
    have t := h.begin_ (w := M.1 31 0 0) hi
    show mInv n D ow (if _ then _ else _)
    split
    · exact t
    · exact t.send hi (by unfold mRn; rw [mBegin_f.1]; decide) ⟨k, hk, rfl⟩ (isN_0 h) (isN_0 h)
  · exact h
theorem mInv.weak {n D : Nat} {ow ow' : Nat → Bool} {M : mM} (h : mInv n D ow M) (hw : ∀ k, ow' k = false → ow k = false) : mInv n D ow' M := ⟨h.1, h.2.1, h.2.2.1, h.2.2.2.1, fun i hi q => ⟨(h.2.2.2.2 i hi q).1, (h.2.2.2.2 i hi q).2.1, fun z => (h.2.2.2.2 i hi q).2.2.1 (hw i z), (h.2.2.2.2 i hi q).2.2.2.1, (h.2.2.2.2 i hi q).2.2.2.2⟩⟩
theorem mInv.stop {n D : Nat} {ow ow' : Nat → Bool} {M : mM} (h : mInv n D ow M) {i : Nat} (hw : ∀ k, k ≠ i → ow' k = false → ow k = false) : mInv n D ow' (mSet M 15 i 0 0) := by
  refine ⟨h.1, h.2.1, fun i' hi => ?_, fun a b ha hb => ?_, fun i' hi q => ?_⟩
  · by_cases e : i' = i
    · rw [e, mSet_eq]; exact isB_0
    · rw [mSet_ne (by omega)]; exact h.2.2.1 i' hi
  · rw [mSet_ne (by omega), mSet_ne (by omega)]; exact h.2.2.2.1 a b ha hb
  · by_cases e : i' = i
    · exact absurd (by rw [e]; exact mSet_eq) q
    · have q' : mRn M i' := by unfold mRn at q ⊢; rw [mSet_ne (by omega)] at q; exact q
      have v := h.2.2.2.2 i' hi q'
      have v' : mVn n D ow' M i' := ⟨v.1, v.2.1, fun z => v.2.2.1 (hw i' e z), v.2.2.2.1, v.2.2.2.2⟩
      exact v'.of (fun f j => mSet_ne (by omega)) rfl
def owI (i : Nat) : Nat → Bool := fun k => decide (k = i)
theorem mInv.bye {n D : Nat} {M : mM} (h : mInv n D (fun _ => false) M) {i : Nat} {inc w : Int32} : mInv n D (owI i) (mBecome M i i 3 inc w) := by
  refine (h.weak (ow' := owI i) (fun _ _ => rfl)).upd (i := i) (Nat.le_refl _) (mAt.rf.become) (fun hi hr ⟨v1, v2, v3, v4, v5⟩ => ⟨v1.of (mBecome_1 (by decide)) (mBecome_1 (by decide)) (mBecome_1 (by decide)), v2.become (s := 3) (by decide) (by decide), fun q => ?_, v4, v5.of (fun f hf => mBecome_1 hf)⟩)
  unfold owI at q
  rw [decide_eq_true rfl] at q
  cases q
theorem mFareF_15 {n i f i' j : Nat} (hf : f ≠ 4) : ∀ {k : Nat} {M : mM}, (mFareF n i k M).1 f i' j = M.1 f i' j
  | 0, _ => rfl
  | k + 1, M => by
    rw [mFareF]
    split
    · rw [mSend_1 hf, mFareF_15 hf]
    · exact mFareF_15 hf
theorem mInv.fareF {n D : Nat} {ow : Nat → Bool} {M : mM} (h : mInv n D ow M) {i : Nat} (hi : i < n) (hr : mRn M i) : ∀ k, k ≤ n → mInv n D ow (mFareF n i k M)
  | 0, _ => h
  | k + 1, hk => by
    rw [mFareF]
    split
    · exact (h.fareF hi hr k (by omega)).send hi (by unfold mRn; rw [mFareF_15 (by decide)]; exact hr) ⟨k, hk, rfl⟩ (isN_0 h) (isN_0 h)
    · exact h.fareF hi hr k (by omega)
theorem oLeave_inv {n D : Nat} {M : mM} (h : mInv n D (fun _ => false) M) {x : Int32} : mInv n D (fun _ => false) (oLeave n M x).2 := by
  have h8 := h.1.2
  unfold oLeave
  split
  · rename_i q
    unfold mRun at q
    rw [Bool.and_eq_true] at q
    obtain ⟨i, hi, rfl⟩ := (mIs_iff (by omega)).mp q.1
    rw [nI_clamp (by omega)] at q ⊢
    have hr : mRn M i := by simpa [mRn] using q.2
    refine mInv.stop (ow := owI i) ?_ (fun k hk _ => by simp [owI, hk])
    exact (h.bye).fareF hi (by unfold mRn; rw [mBecome_1 (by decide)]; exact hr) n (Nat.le_refl _)
  · exact h
theorem oTicks_inv {n D : Nat} {M : mM} (h : mInv n D (fun _ => false) M) {x : Int32} (hD : D + 6000 < 2 ^ 30) : mInv n (D + 6000) (fun _ => false) (oTicks n M x).1 ∧ (¬ (x < 0 ∨ 100 < x) → ∀ t, t < x.toNatClampNeg → mTickOk n (mTicks n t (M, 0)).1 ∧ mInv n (D + 60 * t) (fun _ => false) (mTicks n t (M, 0)).1) := by
  unfold oTicks
  by_cases q : x < 0 ∨ 100 < x
  · rw [if_pos q]; exact ⟨h.mono (by omega), fun z => absurd q z⟩
  · rw [if_neg q]
    have hx : x.toNatClampNeg ≤ 100 := by
      obtain ⟨j, hj, rfl⟩ := nI_of (fun z => q (Or.inl z))
      rw [nI_clamp hj]
      have : nI j ≤ nI 100 := Int32.not_lt.mp (fun z => q (Or.inr z))
      exact (nI_leI hj (by decide)).mp this
    refine ⟨(mTicks_inv (q := (M, 0)) h x.toNatClampNeg (by omega)).mono (by omega), fun _ t ht => ?_⟩
    have u := mTicks_inv (q := (M, 0)) h t (by omega)
    exact ⟨(mTick_inv u (by omega)).2, u⟩
