/-! the probe's end, the timer, a tick -/
theorem isB_by {a k : Nat} (ha : a ≤ 2) (hk : k < 2 ^ 30) : isB (if nI a = 0 then 1 else mMax0 (nI a - nI k)) 2 := by
  by_cases e : nI a = 0
  · rw [if_pos e]; exact ⟨1, by omega, rfl⟩
  · rw [if_neg e]
    by_cases q : k ≤ a
    · rw [pk_sub q]
      unfold mMax0
      split
      · exact ⟨a - k, by omega, rfl⟩
      · exact isB_0
    · unfold mMax0
      rw [if_neg (Int32.lt_asymm (pk_sneg hk (by omega)))]
      exact isB_0
theorem isB_sum : ∀ s, s ≤ 4 → ∀ b, b ≤ 2 → ∃ u, u ≤ 4 ∧ mMin4 (nI s + nI b) = nI u := by decide +kernel
theorem isB_low : ∀ s, s ≤ 4 → ∃ u, u ≤ 4 ∧ mMax0 (nI s - 1) = nI u := by decide +kernel
theorem mEnd_vn {n D : Nat} {ow : Nat → Bool} {M : mM} {i : Nat} {w : Int32} (hi : i < n) (h8 : n ≤ 8) (hD : D < 2 ^ 30) (v1 : mNi n M i) (v2 : mVt n M i) (v3 : ow i = false → mVo M i) (v4 : mVr n (M.2.1 i)) (s4 : isB (M.1 17 i 0) 4) (ht : ∃ m, m < n ∧ m ≠ i ∧ M.1 21 i 0 = nI m) (ha : ∃ a, a ≤ 2 ∧ M.1 25 i 0 = nI a) (hk : ∃ k, k ≤ D ∧ M.1 26 i 0 = nI k) : mVn n D ow (mEnd M i w) i ∧ mAt i M (mEnd M i w) := by
  obtain ⟨m, hm, hmi, em⟩ := ht
  have fin : ∀ N : mM, mAt i M N → isB (N.1 17 i 0) 4 → (∀ f, 5 ≤ f → f ≠ 17 → N.1 f i 0 = M.1 f i 0) → mVt n N i → (ow i = false → mVo N i) → N.2.1 i = M.2.1 i → mVn n D ow (mSet (mSet (mSet (mSet N 21 i 0 (-1)) 23 i 0 0) 24 i 0 0) 19 i 0 (1 + N.1 17 i 0)) i ∧ mAt i M (mSet (mSet (mSet (mSet N 21 i 0 (-1)) 23 i 0 0) 24 i 0 0) 19 i 0 (1 + N.1 17 i 0)) := by
    intro N a1 a2 a3 a4 a5 a6
    refine ⟨⟨⟨?_, ?_, ?_⟩, ?_, ?_, ?_, ?_⟩, (((a1.set (by decide)).set (by decide)).set (by decide)).set (by decide)⟩
    · have := v1.1; rw [← a3 22 (by decide) (by decide)] at this; simpa [mSet] using this
    · have := v1.2.1; rw [← a3 27 (by decide) (by decide)] at this; simpa [mSet] using this
    · left; simp [mSet]
    · exact (((a4.set (by decide)).set (by decide)).set (by decide)).set (by decide)
    · intro q
      have := a5 q
      exact ⟨by have := this.1; simpa [mSet] using this, by have := this.2; simpa [mSet] using this⟩
    · show mVr n (N.2.1 i); rw [a6]; exact v4
    · unfold mVp
      refine ⟨by simpa [mSet] using a2, ⟨0, by omega, by simp [mSet]; rfl⟩, fun _ => ⟨by simp [mSet], by simp [mSet], ?_⟩, fun q => absurd (by simp [mSet]) q⟩
      obtain ⟨s, hs, es⟩ := a2
      refine ⟨s + 1, by omega, by omega, ?_⟩
      rw [mSet_eq, es]
      exact (nI_add 1 s).trans (by rw [Nat.add_comm])
  unfold mEnd
  by_cases e : M.1 24 i 0 = 0
  · simp only [e, if_true]
    obtain ⟨s, hs, es⟩ := s4
    obtain ⟨a, ha2, ea⟩ := ha
    obtain ⟨k, hk2, ek⟩ := hk
    have sc : isB (mMin4 (M.1 17 i 0 + (if M.1 25 i 0 = 0 then 1 else mMax0 (M.1 25 i 0 - M.1 26 i 0)))) 4 := by
      obtain ⟨b, hb, eb⟩ := isB_by (a := a) (k := k) ha2 (by omega)
      rw [ea, ek, eb, es]
      exact isB_sum s hs b hb
    rw [em, nI_clamp (by omega)]
    by_cases e2 : M.1 0 i m = 1
    · simp only [e2, if_true]
      refine fin _ (((mAt.rf.set (by decide)).become).set (by decide)) ?_ (fun f h5 h17 => ?_) ?_ (fun q => ⟨?_, ?_⟩) rfl
      · rw [mSet_ne (by omega), mBecome_1 (by decide), mSet_eq]; exact sc
      · rw [mSet_ne (by omega), mBecome_1 h5, mSet_ne (by omega)]
      · refine mVt.conf (mVt.become (s := 2) (v2.set (by decide)) (by decide) (by decide)) ?_ (isB_bit h8 ⟨i, hi, rfl⟩)
        rw [mBecome_eq.1]; decide
      · rw [mSet_ne (by omega), mBecome_ne (by omega), mSet_ne (by omega)]; exact (v3 q).1
      · rw [mSet_ne (by omega), mBecome_ne (by omega), mSet_ne (by omega)]; exact (v3 q).2
    · simp only [e2, if_false]
      refine fin _ (mAt.rf.set (by decide)) ?_ (fun f h5 h17 => mSet_ne (by omega)) (v2.set (by decide)) (fun q => ⟨?_, ?_⟩) rfl
      · rw [mSet_eq]; exact sc
      · rw [mSet_ne (by omega)]; exact (v3 q).1
      · rw [mSet_ne (by omega)]; exact (v3 q).2
  · simp only [e, if_false]
    refine fin _ (mAt.rf.set (by decide)) ?_ (fun f h5 h17 => mSet_ne (by omega)) (v2.set (by decide)) (fun q => ⟨?_, ?_⟩) rfl
    · rw [mSet_eq]
      obtain ⟨s, hs, es⟩ := s4
      rw [es]; exact isB_low s hs
    · rw [mSet_ne (by omega)]; exact (v3 q).1
    · rw [mSet_ne (by omega)]; exact (v3 q).2
theorem mInv.go {n D : Nat} {ow : Nat → Bool} {M : mM} (h : mInv n D ow M) {i : Nat} {w : Int32} (hD : D < 2 ^ 30) (hi : i < n) (hr : mRn M i) (hp : M.1 21 i 0 ≠ -1) : mInv n D ow (mGo n M i w) := by
  have h8 := h.1.2
  obtain ⟨v1, v2, v3, v4, v5⟩ := h.2.2.2.2 i hi hr
  obtain ⟨q0, c, a, k, q1, q2, q3, q4, q5, q6, q7⟩ := v5.2.2.2 hp
  unfold mGo
  rw [q4, nI_1]
  have e8 : nI (c + 1) < 8 ↔ c < 7 := (nI_ltI (b := 8) (by omega) (by decide)).trans (by omega)
  have e3 : nI (c + 1) = 3 ↔ c = 2 := (nI_eq (b := 3) (by omega) (by decide)).trans (by omega)
  by_cases e : c < 7
  · simp only [e8.mpr e, if_true]
    have t : mInv n D ow (mSet M 23 i 0 (nI (c + 1))) := by
      refine h.nf (i := i) (mAt.rf.set (by decide)) (fun f j hf => mSet_ne (by omega)) rfl (fun _ _ w1 w5 => ⟨w1.of (mSet_ne (by omega)) (mSet_ne (by omega)) (mSet_ne (by omega)), ?_⟩)
      unfold mVp at w5 ⊢
      rw [mSet_eq, mSet_ne (by omega), mSet_ne (by omega), mSet_ne (by omega), mSet_ne (by omega), mSet_ne (by omega), mSet_ne (by omega)]
      exact ⟨w5.1, w5.2.1, fun q => absurd q hp, fun _ => ⟨q0, c + 1, a, k, by omega, q2, q3, rfl, q5, q6, fun z => q7 (by omega)⟩⟩
    by_cases e2 : nI (c + 1) = 3 ∧ M.1 24 i 0 = 0
    · rw [if_pos e2]
      refine mInv.askF hi _ _ _ t (by unfold mRn; rw [mSet_ne (by omega)]; exact hr) (by rw [mSet_ne (by omega)]; exact hp) ?_
      rw [mSet_eq, e2.1]; exact Int32.lt_irrefl
    · rw [if_neg e2]; exact t
  · have e' : ¬ nI (c + 1) < 8 := fun z => e (e8.mp z)
    have e2 : ¬ (nI (c + 1) = 3 ∧ M.1 24 i 0 = 0) := fun z => by have := e3.mp z.1; omega
    simp only [e', e2, if_false]
    have hg : isN n (M.1 21 i 0) := v1.2.2.resolve_left hp
    obtain ⟨m, hm, em⟩ := hg
    obtain ⟨x1, x2⟩ := mEnd_vn (n := n) (D := D) (ow := ow) (M := mSet M 23 i 0 (nI (c + 1))) (i := i) (w := w) hi h8 hD (v1.of (mSet_ne (by omega)) (mSet_ne (by omega)) (mSet_ne (by omega))) (v2.set (by decide)) (fun q => ⟨by rw [mSet_ne (by omega)]; exact (v3 q).1, by rw [mSet_ne (by omega)]; exact (v3 q).2⟩) v4 (by rw [mSet_ne (by omega)]; exact v5.1) ⟨m, hm, fun z => q0 (by rw [em, z]), by rw [mSet_ne (by omega)]; exact em⟩ ⟨a, q2, by rw [mSet_ne (by omega)]; exact q5⟩ ⟨k, q3, by rw [mSet_ne (by omega)]; exact q6⟩
    exact h.upd (i := i) (Nat.le_refl _) ((mAt.rf.set (by decide)).tr x2) (fun _ _ _ => x1)
theorem mAge_rn {n : Nat} {M : mM} {i i' : Nat} : mRn (mAge n M i) i' ↔ mRn M i' := by unfold mRn mAge; rw [mAgeF_1 (by decide)]
theorem mBury_rn {M : mM} {i i' k : Nat} {w : Int32} : mRn (mBury M i w k) i' ↔ mRn M i' := by unfold mRn; rw [mBury_1 (by decide)]
theorem mRest_15 {n : Nat} {M : mM} {i i' j : Nat} {f : Nat} (hf : f = 15 ∨ f = 16 ∨ f = 27 ∨ f = 31) : (mRest n M i).1 f i' j = M.1 f i' j := by
  unfold mRest
  split
  · split
    · simp only [mSet]; simp [show f ≠ 19 by omega]
    · unfold mProbe
      rw [mSend_1 (by omega)]
      simp only [mSet]; simp [show f ≠ 26 by omega, show f ≠ 25 by omega, show f ≠ 24 by omega, show f ≠ 23 by omega, show f ≠ 22 by omega, show f ≠ 21 by omega, show f ≠ 20 by omega, show f ≠ 19 by omega]
  · exact mSet_ne (by omega)
theorem mEnd_15 {M : mM} {i i' j f : Nat} {w : Int32} (hf : f = 15 ∨ f = 16 ∨ f = 27 ∨ f = 31) : (mEnd M i w).1 f i' j = M.1 f i' j := by
  unfold mEnd
  rw [mSet_ne (by omega), mSet_ne (by omega), mSet_ne (by omega), mSet_ne (by omega)]
  simp only []
  by_cases e : M.1 24 i 0 = 0
  · rw [if_pos e]
    by_cases e2 : M.1 0 i (M.1 21 i 0).toNatClampNeg = 1
    · rw [if_pos e2, mSet_ne (by omega), mBecome_1 (by omega), mSet_ne (by omega)]
    · rw [if_neg e2]; exact mSet_ne (by omega)
  · rw [if_neg e]; exact mSet_ne (by omega)
theorem mGo_15 {n : Nat} {M : mM} {i i' j f : Nat} {w : Int32} (hf : f = 15 ∨ f = 16 ∨ f = 27 ∨ f = 31) : (mGo n M i w).1 f i' j = M.1 f i' j := by
  have e : ∀ N : mM, N = (if M.1 23 i 0 + 1 = 3 ∧ M.1 24 i 0 = 0 then mAskF n i (n - 1) 1 (mSet M 23 i 0 (M.1 23 i 0 + 1)) else mSet M 23 i 0 (M.1 23 i 0 + 1)) → N.1 f i' j = M.1 f i' j := by
    rintro N rfl
    split
    · rw [mAskF_1 (by omega) (by omega), mSet_ne (by omega)]
    · exact mSet_ne (by omega)
  unfold mGo
  simp only []
  split
  · exact e _ rfl
  · rw [mEnd_15 hf]; exact e _ rfl
theorem mInv.timer {n D : Nat} {ow : Nat → Bool} {M : mM} (h : mInv n D ow M) {i : Nat} {w : Int32} (hD : D < 2 ^ 30) (hi : i < n) (hr : mRn M i) : mInv n D ow (mTimer n M i w) := by
  have t1 := (h.age hi hr).bury (i := i) (w := w) n
  have r1 : mRn (mBury (mAge n M i) i w n) i := mBury_rn.mpr (mAge_rn.mpr hr)
  unfold mTimer
  simp only []
  generalize mBury (mAge n M i) i w n = M1 at t1 r1 ⊢
  have t2 : mInv n D ow (if M1.1 21 i 0 = -1 then mRest n M1 i else mGo n M1 i w) ∧ mRn (if M1.1 21 i 0 = -1 then mRest n M1 i else mGo n M1 i w) i := by
    split
    · rename_i q
      exact ⟨t1.rest hi r1 q, by unfold mRn; rw [mRest_15 (by omega)]; exact r1⟩
    · rename_i q
      exact ⟨t1.go hD hi r1 q, by unfold mRn; rw [mGo_15 (by omega)]; exact r1⟩
  generalize (if M1.1 21 i 0 = -1 then mRest n M1 i else mGo n M1 i w) = M2 at t2 ⊢
  split
  · exact mSync_inv t2.1 hi t2.2
  · exact t2.1
theorem mInv.tims {n D : Nat} {ow : Nat → Bool} {M : mM} (h : mInv n D ow M) (hD : D < 2 ^ 30) : ∀ k, k ≤ n → mInv n D ow (mTims n k M)
  | 0, _ => h
  | k + 1, hk => by
    rw [mTims]
    split
    · exact h.tims hD k (by omega)
    · rename_i q
      exact (h.tims hD k (by omega)).timer hD (by omega) q
theorem mVn.of28 {n D : Nat} {ow : Nat → Bool} {M M' : mM} {i : Nat} (h : mVn n D ow M i) (h1 : ∀ f j, f < 28 → M'.1 f i j = M.1 f i j) (h2 : M'.2.1 i = M.2.1 i) : mVn n D ow M' i :=
  ⟨h.1.of (h1 _ _ (by decide)) (h1 _ _ (by decide)) (h1 _ _ (by decide)), h.2.1.of (fun f j hf => h1 f j (by omega)), fun q => ⟨(h1 _ _ (by decide)).trans (h.2.2.1 q).1, (h1 _ _ (by decide)).trans (h.2.2.1 q).2⟩, by rw [h2]; exact h.2.2.2.1, by
    have v5 := h.2.2.2.2
    unfold mVp at v5 ⊢
    rw [h1 17 0 (by decide), h1 24 0 (by decide), h1 21 0 (by decide), h1 23 0 (by decide), h1 19 0 (by decide), h1 25 0 (by decide), h1 26 0 (by decide)]
    exact v5⟩
theorem mInv.clk {n D : Nat} {ow : Nat → Bool} {M : mM} (h : mInv n D ow M) : mInv n D ow (mClk M) := ⟨h.1, h.2.1, fun i hi => by unfold mClk; rw [mSet_ne (by omega)]; exact h.2.2.1 i hi, fun i j hi hj => by unfold mClk; rw [mSet_ne (by omega), mSet_ne (by omega)]; exact h.2.2.2.1 i j hi hj, fun i hi q => (h.2.2.2.2 i hi (by unfold mRn mClk at q; rw [mSet_ne (by omega)] at q; exact q)).of28 (fun f j hf => mSet_ne (by omega)) rfl⟩
/-! what arrives -/
theorem mSend_len {n : Nat} {M : mM} {kind : Int32} {i : Nat} {to no o g : Int32} : M.2.2.length ≤ (mSend n M kind i to no o g).2.2.length := by
  have e : ∀ (N : mM) (m : List Int32), N.2.2.length ≤ (mPush N m).2.2.length := fun N m => by
    unfold mPush
    split
    · exact Nat.le_refl _
    · show _ ≤ (N.2.2 ++ [m]).length
      rw [List.length_append]; omega
  unfold mSend
  split
  · exact e _ _
  · exact e (mSpend M i (mPk n M i)) _
theorem mTake_len {n : Nat} {M : mM} {i : Nat} {msg : List Int32} : M.2.2.length ≤ (mTake n M i msg).2.2.length := by
  unfold mTake
  split
  · exact mSend_len
  · split
    · unfold mAck
      split
      · split <;> exact Nat.le_refl _
      · split
        · exact Nat.le_refl _
        · exact mSend_len (M := mRl M i _)
    · split
      · unfold mAsk
        split
        · exact Nat.le_refl _
        · exact mSend_len (M := mRl M i _)
      · split
        · split <;> exact Nat.le_refl _
        · split
          · exact mSend_len
          · exact Nat.le_refl _
theorem mLearn_at {M : mM} {i m : Nat} {s inc fr w : Int32} : mAt i M (mLearn M i m s inc fr w) := by
  unfold mLearn
  split
  · split
    · exact mAt.rf
    · split
      · exact ((mAt.rf.become).set (by decide)).set (by decide)
      · exact mAt.rf.set (by decide)
  · split
    · split
      · exact mAt.rf.become.set (by decide)
      · exact mAt.rf.become
    · split
      · exact mAt.rf.set (by decide)
      · exact mAt.rf
theorem mLearns_at {M : mM} {i : Nat} {msg : List Int32} {w : Int32} : ∀ t, mAt i M (mLearns M i msg w t)
  | 0 => mAt.rf
  | t + 1 => (mLearns_at t).tr mLearn_at
theorem mVf.tl {n : Nat} {fl : List (List Int32)} (h : mVf n fl) : mVf n fl.tail := ⟨by rw [List.length_tail]; have := h.1; omega, fun m hm => h.2 m (List.mem_of_mem_tail hm)⟩
theorem mVf.hd {n : Nat} {fl : List (List Int32)} (h : mVf n fl) (h0 : fl ≠ []) : mVm n (fl.headD []) := by
  cases fl with
  | nil => exact absurd rfl h0
  | cons x r => exact h.2 x List.mem_cons_self
theorem mDel1_inv {n D : Nat} {M : mM} (h : mInv n D (fun _ => false) M) (h0 : M.2.2 ≠ []) : mInv n (D + 1) (fun _ => false) (mDel1 n M).2 ∧ M.2.2.length - 1 ≤ (mDel1 n M).2.2.2.length := by
  have hm := h.2.1.hd h0
  unfold mDel1
  simp only []
  split
  · rename_i q
    obtain ⟨c, c8, hl, h6, h1, h2, _⟩ := hm.1
    obtain ⟨j, hj, ej⟩ := h2
    have h8 := h.1.2
    refine ⟨(h.fl h.2.1.tl).recv (by rw [ej, nI_clamp (by omega)]; exact hj) q.1 rfl hm, ?_⟩
    show _ ≤ (mRecv n (mFl M M.2.2.tail) _ _ _).2.2.length
    unfold mRecv
    refine Nat.le_trans ?_ mTake_len
    rw [(mLearns_at _).2.2]
    show _ ≤ M.2.2.tail.length
    rw [List.length_tail]
    exact Nat.le_refl _
  · refine ⟨(h.fl h.2.1.tl).mono (by omega), ?_⟩
    show _ ≤ M.2.2.tail.length
    rw [List.length_tail]
    exact Nat.le_refl _
theorem mDelF_inv {n : Nat} : ∀ (p : Nat) {D : Nat} {M : mM} {c : Int32}, mInv n D (fun _ => false) M → p ≤ M.2.2.length → mInv n (D + p) (fun _ => false) (mDelF n p M c).1 ∧ mDelOk n p M
  | 0, D, M, c, h, _ => ⟨h, trivial⟩
  | p + 1, D, M, c, h, hp => by
    have h0 : M.2.2 ≠ [] := fun q => by rw [q] at hp; simp at hp
    obtain ⟨a, b⟩ := mDel1_inv h h0
    obtain ⟨x, y⟩ := mDelF_inv p (c := if (mDel1 n M).1 = true then c + 1 else c) a (by omega)
    have hl := h.2.1.1
    exact ⟨x.mono (by omega), (h.2.1.hd h0).1, by rw [List.length_tail]; omega, y⟩
theorem mTick_inv {n D : Nat} {q : mM × Int32} (h : mInv n D (fun _ => false) q.1) (hD : D + 60 < 2 ^ 30) : mInv n (D + 60) (fun _ => false) (mTick n q).1 ∧ mTickOk n q.1 := by
  have hl := h.2.1.1
  obtain ⟨a, b⟩ := mDelF_inv q.1.2.2.length (c := 0) h.clk (Nat.le_refl _)
  have a' := a.mono (D' := D + 60) (by omega)
  exact ⟨a'.tims hD n (Nat.le_refl _), b, fun k hk hr => ((a'.tims hD k (by omega)).2.2.2.2 k hk hr).1⟩
theorem mTicks_inv {n D : Nat} {q : mM × Int32} (h : mInv n D (fun _ => false) q.1) : ∀ t, D + 60 * t < 2 ^ 30 → mInv n (D + 60 * t) (fun _ => false) (mTicks n t q).1
  | 0, _ => h
  | t + 1, ht => by
    have := (mTick_inv (mTicks_inv h t (by omega)) (by omega)).1
    exact this.mono (by omega)
/-! the calls -/
theorem mVf.erase {n : Nat} {fl : List (List Int32)} (h : mVf n fl) {k : Nat} : mVf n (fl.eraseIdx k) := ⟨Nat.le_trans (List.Sublist.length_le (List.eraseIdx_sublist fl k)) h.1, fun m hm => h.2 m ((List.eraseIdx_sublist fl k).subset hm)⟩
theorem oDrop_inv {n D : Nat} {ow : Nat → Bool} {M : mM} (h : mInv n D ow M) {x : Int32} : mInv n D ow (oDrop M x) := by
  unfold oDrop
  split
  · exact h.fl h.2.1.erase
  · exact h
theorem getD_memL {l : List (List Int32)} {t : Nat} (h : t < l.length) : l.getD t [] ∈ l := by
  rw [List.getD_eq_getElem?_getD, List.getElem?_eq_getElem h]
  exact List.getElem_mem h
theorem mVf.swap {n : Nat} {fl : List (List Int32)} (h : mVf n fl) {k : Nat} (hk : k + 1 < fl.length) : mVf n (mSwap fl k) := by
  refine ⟨by unfold mSwap; rw [List.length_set, List.length_set]; exact h.1, fun m hm => ?_⟩
  unfold mSwap at hm
  rcases List.mem_or_eq_of_mem_set hm with q | q
  · rcases List.mem_or_eq_of_mem_set q with q | q
    · exact h.2 m q
    · rw [q]; exact h.2 _ (getD_memL hk)
  · rw [q]; exact h.2 _ (getD_memL (by omega))
theorem oSwap_inv {n D : Nat} {ow : Nat → Bool} {M : mM} (h : mInv n D ow M) {x : Int32} : mInv n D ow (oSwap M x) := by
  unfold oSwap
  split
  · rename_i q
    have hl := h.2.1.1
    obtain ⟨j, hj, rfl⟩ := (mIs_iff (by omega)).mp q
    rw [nI_clamp (by omega)]
    exact h.fl (h.2.1.swap (by omega))
  · exact h
theorem oCrash_inv {n D : Nat} {ow : Nat → Bool} {M : mM} (h : mInv n D ow M) {x : Int32} : mInv n D ow (oCrash n M x).2 := by
  unfold oCrash
  split
  · refine ⟨h.1, h.2.1, fun i hi => ?_, fun i j hi hj => ?_, fun i hi q => ?_⟩
    · by_cases e : i = x.toNatClampNeg
      · rw [e, mSet_eq]; exact isB_0
      · rw [mSet_ne (by omega)]; exact h.2.2.1 i hi
    · rw [mSet_ne (by omega), mSet_ne (by omega)]; exact h.2.2.2.1 i j hi hj
    · by_cases e : i = x.toNatClampNeg
      · exact absurd (by rw [e]; exact mSet_eq) q
      · have q' : mRn M i := by unfold mRn at q ⊢; rw [mSet_ne (by omega)] at q; exact q
        exact (h.2.2.2.2 i hi q').of (fun f j => mSet_ne (by omega)) rfl
  · exact h
theorem oCut_inv {n D : Nat} {ow : Nat → Bool} {M : mM} (h : mInv n D ow M) {x y z : Int32} (hz : z = 0 ∨ z = 1) : mInv n D ow (oCut n M x y z).2 := by
  have h8 := h.1.2
  unfold oCut
  split
  · rename_i q
    obtain ⟨a, ha, rfl⟩ := (mIs_iff (by omega)).mp q.1
    obtain ⟨b, hb, rfl⟩ := (mIs_iff (by omega)).mp q.2.1
    have hab : a ≠ b := fun e => q.2.2.1 (by rw [e])
    rw [nI_clamp (by omega), nI_clamp (by omega)]
    have hz' : isB z 1 := by
      rcases hz with e | e
      · exact ⟨0, by omega, e⟩
      · exact ⟨1, by omega, e⟩
    refine ⟨h.1, h.2.1, fun i hi => by rw [mSet_ne (by omega), mSet_ne (by omega)]; exact h.2.2.1 i hi, fun i j hi hj => ?_, fun i hi q' => ?_⟩
    · have e := h.2.2.2.1 i j hi hj
      by_cases q1 : i = a ∧ j = b
      · obtain ⟨rfl, rfl⟩ := q1
        rw [mSet_eq, mSet_ne (by omega), mSet_eq]
        exact ⟨hz', rfl⟩
      · by_cases q2 : i = b ∧ j = a
        · obtain ⟨rfl, rfl⟩ := q2
          rw [mSet_eq, mSet_ne (by omega), mSet_eq]
          exact ⟨hz', rfl⟩
        · rw [mSet_ne (by omega), mSet_ne (by omega), mSet_ne (by omega), mSet_ne (by omega)]
          exact e
    · have q2 : mRn M i := by unfold mRn at q' ⊢; rw [mSet_ne (by omega), mSet_ne (by omega)] at q'; exact q'
      exact (h.2.2.2.2 i hi q2).of28 (fun f j hf => by rw [mSet_ne (by omega), mSet_ne (by omega)]) rfl
  · exact h
/-- a node that begins -/
theorem mForget_eq {M : mM} {i : Nat} : ∀ {k f j : Nat}, j < k → f < 5 → (mForget M i k).1 f i j = 0
  | 0, _, _, h, _ => by cases h
  | k + 1, f, j, h, hf => by
    rw [mForget]
    by_cases e : j = k
    · subst e
      by_cases e4 : f = 4
      · subst e4; rw [mSet_eq]
      rw [mSet_ne (by omega)]
      by_cases e3 : f = 3
      · subst e3; rw [mSet_eq]
      rw [mSet_ne (by omega)]
      by_cases e2 : f = 2
      · subst e2; rw [mSet_eq]
      rw [mSet_ne (by omega)]
      by_cases e1 : f = 1
      · subst e1; rw [mSet_eq]
      rw [mSet_ne (by omega)]
      have e0 : f = 0 := by omega
      subst e0; rw [mSet_eq]
    · rw [mSet_ne (by omega), mSet_ne (by omega), mSet_ne (by omega), mSet_ne (by omega), mSet_ne (by omega)]
      exact mForget_eq (by omega) hf
theorem mForget_ne {M : mM} {i : Nat} {f i' j : Nat} (h : i' ≠ i ∨ 5 ≤ f) : ∀ {k : Nat}, (mForget M i k).1 f i' j = M.1 f i' j
  | 0 => rfl
  | k + 1 => by
    rw [mForget, mSet_ne (by omega), mSet_ne (by omega), mSet_ne (by omega), mSet_ne (by omega), mSet_ne (by omega)]
    exact mForget_ne h
theorem mForget_2 {M : mM} {i : Nat} : ∀ {k : Nat}, (mForget M i k).2 = M.2
  | 0 => rfl
  | k + 1 => mForget_2 (k := k)
