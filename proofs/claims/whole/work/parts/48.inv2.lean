/-! sending keeps it -/
theorem mMsg_7 {kind i to no o g : Int32} {c j : Nat} {news : List Int32} : (mMsg kind i to no o g c news).getD (7 + j) 0 = news.getD j 0 := by
  rw [Nat.add_comm]; rfl
theorem mMsg_len {kind i to no o g : Int32} {c : Nat} {news : List Int32} : (mMsg kind i to no o g c news).length = 7 + news.length := by
  unfold mMsg; rw [List.length_append]; rfl
theorem getD_mem {l : List Nat} {t : Nat} (h : t < l.length) : l.getD t 0 ∈ l := by
  rw [List.getD_eq_getElem?_getD, List.getElem?_eq_getElem h]
  exact List.getElem_mem h
theorem mVm_new {n : Nat} {M : mM} {kind to no o g : Int32} {i : Nat} {l : List Nat} (hi : i < n) (h8 : l.length ≤ 8) (hl : ∀ m ∈ l, m < n ∧ ∃ s, 1 ≤ s ∧ s ≤ 3 ∧ M.1 0 i m = nI s) (hto : isN n to) (ho : isN n o) (hg : isN n g) : mVm n (mMsg kind (nI i) to no o g l.length (mNews M i l)) := by
  refine ⟨⟨l.length, h8, ?_, rfl, ⟨i, hi, rfl⟩, hto, ho, hg, fun t ht => ?_⟩, fun t ht => ?_⟩
  · rw [mMsg_len, mNews_len]
  · rw [mMsg_7, (mNews_at ht).1]
    exact ⟨_, (hl _ (getD_mem ht)).1, rfl⟩
  · rw [mMsg_len, mNews_len] at ht
    have ht' : t < l.length := by omega
    rw [mMsg_7, (mNews_at ht').2.1]
    exact (hl _ (getD_mem ht')).2
theorem mVt.some {n : Nat} {M : mM} {i m : Nat} (h : mVt n M i) (hm : m < n) (hs : M.1 0 i m ≠ 0) : ∃ s, 1 ≤ s ∧ s ≤ 3 ∧ M.1 0 i m = nI s := by
  obtain ⟨s, h3, e⟩ := (h m hm).1
  refine ⟨s, ?_, h3, e⟩
  cases s with
  | zero => exact absurd e hs
  | succ s => omega
theorem mVt.pk {n : Nat} {M : mM} {i m : Nat} (h : mVt n M i) (hm : m ∈ mPk n M i) : m < n ∧ ∃ s, 1 ≤ s ∧ s ≤ 3 ∧ M.1 0 i m = nI s := by
  obtain ⟨a, b⟩ := mPick_in hm
  refine ⟨a, h.some a (fun q => ?_)⟩
  rw [((h m a).2.2.2 q).2.2.2] at b
  exact absurd b Int32.lt_irrefl
theorem mVt.tb {n : Nat} {M : mM} {i m : Nat} (h : mVt n M i) (hm : m ∈ mTable n M i) : m < n ∧ ∃ s, 1 ≤ s ∧ s ≤ 3 ∧ M.1 0 i m = nI s := by
  have a := mTable_in hm
  refine ⟨a, h.some a (fun q => ?_)⟩
  have := (List.mem_filter.mp hm).2
  simp [q] at this
theorem mVt.spend {n : Nat} {M : mM} {i : Nat} (h : mVt n M i) : mVt n (mSpend M i (mPk n M i)) i := by
  intro j hj
  obtain ⟨a, b, c, d⟩ := h j hj
  have e : ∀ f, f ≠ 4 → (mSpend M i (mPk n M i)).1 f i j = M.1 f i j := fun f hf => if_neg (fun q => hf q.1)
  rw [e 0 (by decide), e 1 (by decide), e 2 (by decide), e 3 (by decide)]
  by_cases q : j ∈ mPk n M i
  · have e4 : (mSpend M i (mPk n M i)).1 4 i j = M.1 4 i j - 1 := if_pos ⟨rfl, rfl, q⟩
    rw [e4]
    have hp := (mPick_in q).2
    obtain ⟨v, hv, ev⟩ := c
    rw [ev] at hp ⊢
    obtain ⟨u, rfl⟩ : ∃ u, v = u + 1 := by
      cases v with
      | zero => exact absurd hp (by decide)
      | succ u => exact ⟨u, rfl⟩
    refine ⟨a, b, ⟨u, by omega, nI_pred u⟩, fun z => ?_⟩
    obtain ⟨_, s, s1, s3, es⟩ := h.pk q
    rw [es] at z
    exact absurd z (nI_ne0 s1 (by omega))
  · have e4 : (mSpend M i (mPk n M i)).1 4 i j = M.1 4 i j := if_neg (fun z => q z.2.2)
    rw [e4]
    exact ⟨a, b, c, d⟩
theorem mVf.push {n : Nat} {fl : List (List Int32)} {m : List Int32} (h : mVf n fl) (hl : fl.length ≠ 60) (hm : mVm n m) : mVf n (fl ++ [m]) := by
  refine ⟨by rw [List.length_append]; have := h.1; simp only [List.length_cons, List.length_nil]; omega, fun x hx => ?_⟩
  rcases List.mem_append.mp hx with q | q
  · exact h.2 x q
  · rw [List.mem_singleton.mp q]; exact hm
theorem mInv.push {n D : Nat} {ow : Nat → Bool} {M : mM} (h : mInv n D ow M) {m : List Int32} (hm : mVm n m) : mInv n D ow (mPush M m) := by
  unfold mPush
  by_cases e : M.2.2.length = 60
  · rw [if_pos e]; exact h
  · rw [if_neg e]; exact h.fl (h.2.1.push e hm)
theorem mInv.spend {n D : Nat} {ow : Nat → Bool} {M : mM} (h : mInv n D ow M) {i : Nat} : mInv n D ow (mSpend M i (mPk n M i)) := by
  refine h.upd (i := i) (Nat.le_refl _) ⟨fun f i' j q => if_neg (fun z => ?_), fun _ _ => rfl, rfl⟩ (fun hi hr ⟨v1, v2, v3, v4, v5⟩ => ?_)
  · rcases q with q | q
    · exact q z.2.1
    · have := z.1; omega
  · have e : ∀ f j, f ≠ 4 → (mSpend M i (mPk n M i)).1 f i j = M.1 f i j := fun f j hf => if_neg (fun q => hf q.1)
    exact ⟨v1.of (e _ _ (by decide)) (e _ _ (by decide)) (e _ _ (by decide)), v2.spend, fun q => ⟨(e _ _ (by decide)).trans (v3 q).1, (e _ _ (by decide)).trans (v3 q).2⟩, v4, v5.of (fun f hf => e f 0 (by omega))⟩
theorem mInv.send {n D : Nat} {ow : Nat → Bool} {M : mM} (h : mInv n D ow M) {i : Nat} (hi : i < n) (hr : mRn M i) {kind to no o g : Int32} (hto : isN n to) (ho : isN n o) (hg : isN n g) : mInv n D ow (mSend n M kind i to no o g) := by
  have h8 := h.1.2
  have hv := (h.2.2.2.2 i hi hr).2.1
  unfold mSend
  split
  · exact h.push (mVm_new hi (Nat.le_trans mTable_len h8) (fun m hm => hv.tb hm) hto ho hg)
  · exact h.spend.push (mVm_new hi (Nat.le_trans mPick_len (by decide)) (fun m hm => hv.pk hm) hto ho hg)
/-- what sending keeps of a table -/
theorem mVt.sent {n : Nat} {M : mM} {i : Nat} (h : mVt n M i) {kind to no o g : Int32} {i' : Nat} (hi : i' = i) : mVt n (mSend n M kind i' to no o g) i := by
  subst hi
  unfold mSend mPush
  split
  · split <;> exact h
  · split <;> exact h.spend
theorem mVt.pos {n : Nat} {M : mM} {i : Nat} (h : mVt n M i) : ∀ j, j < n → 0 ≤ M.1 4 i j := fun j hj => by
  obtain ⟨v, hv, e⟩ := (h j hj).2.2.1
  rw [e]; exact nI_pos' (by omega)
theorem mVt.st0 {n : Nat} {M : mM} {i : Nat} (h : mVt n M i) : ∀ j, j < n → 0 ≤ M.1 0 i j := fun j hj => by
  obtain ⟨v, hv, e⟩ := (h j hj).1
  rw [e]; exact nI_pos' (by omega)
/-! receiving keeps it -/
theorem mSend_at {n : Nat} {M : mM} {kind : Int32} {i : Nat} {to no o g : Int32} {f i' j : Nat} (h : i' ≠ i ∨ f ≠ 4) : (mSend n M kind i to no o g).1 f i' j = M.1 f i' j := by
  rcases h with h | h
  · unfold mSend mPush
    split
    · split <;> rfl
    · split <;> exact if_neg (fun q => h q.2.1)
  · exact mSend_1 h
theorem mAt_rn {i i' : Nat} {M M' : mM} (h : mAt i M M') : mRn M' i' ↔ mRn M i' := by
  unfold mRn; rw [h.1 _ _ _ (by omega)]
theorem mInv.learns {n D : Nat} {ow : Nat → Bool} {M : mM} (h : mInv n D ow M) {i : Nat} {msg : List Int32} {w : Int32} (how : ow i = false) (hm : mVm n msg) : ∀ t, 7 + 3 * t ≤ msg.length → mInv n D ow (mLearns M i msg w t) ∧ mAt i M (mLearns M i msg w t)
  | 0, _ => ⟨h, mAt.rf⟩
  | t + 1, ht => by
    obtain ⟨h1, h2⟩ := h.learns (w := w) how hm t (by omega)
    obtain ⟨s, s1, s3, es⟩ := hm.2 t (by omega)
    obtain ⟨c, c8, hl, h6, hfr, _⟩ := hm.1
    rw [mLearns, es]
    obtain ⟨a, b⟩ := h1.learn (i := i) (m := (msg.getD (7 + 3 * t) 0).toNatClampNeg) (inc := msg.getD (7 + (3 * t + 2)) 0) (w := w) how s1 s3 hfr
    exact ⟨a, h2.tr b⟩
theorem mInv.rl {n D : Nat} {ow : Nat → Bool} {M : mM} (h : mInv n D ow M) {i : Nat} {r : List (List Int32)} (hr : mVr n (M.2.1 i) → mVr n r) : i < n → mRn M i → mInv n D ow (mRl M i r) := fun hi hrn => h.upd (i := i) (Nat.le_refl _) mAt.rf.rl (fun _ _ ⟨v1, v2, v3, v4, v5⟩ => ⟨v1, v2, v3, by
    have e : (mRl M i r).2.1 i = r := if_pos rfl
    rw [e]; exact hr v4, v5⟩)
theorem mVr.erase {n : Nat} {r : List (List Int32)} {k : Nat} (h : mVr n r) : mVr n (r.eraseIdx k) := ⟨Nat.le_trans (List.Sublist.length_le (List.eraseIdx_sublist r k)) h.1, fun x hx => h.2.1 x ((List.eraseIdx_sublist r k).subset hx), h.2.2.sublist (List.eraseIdx_sublist r k)⟩
theorem mVr.add {n : Nat} {r : List (List Int32)} {no o g : Int32} (h : mVr n r) (hl : r.length < 4) (ho : isN n o) (hg : isN n g) : mVr n (r ++ [[no, o, g, 0]]) := by
  refine ⟨by rw [List.length_append]; simp only [List.length_cons, List.length_nil]; omega, fun x hx => ?_, ?_⟩
  · rcases List.mem_append.mp hx with q | q
    · exact h.2.1 x q
    · rw [List.mem_singleton.mp q]; exact ⟨ho, hg, isB_0⟩
  · rw [List.pairwise_append]
    refine ⟨h.2.2, List.pairwise_singleton _ _, fun a ha b hb => ?_⟩
    rw [List.mem_singleton.mp hb]
    obtain ⟨v, hv, e⟩ := (h.2.1 a ha).2.2
    rw [e]
    exact nI_pos' (by omega)
theorem mInv.ack {n D : Nat} {ow : Nat → Bool} {M : mM} (h : mInv n D ow M) {i : Nat} (hi : i < n) (hr : mRn M i) {no o g : Int32} (ho : isN n o) (hg : isN n g) : mInv n D ow (mAck n M i no o g) := by
  unfold mAck
  by_cases e : o = nI i
  · rw [if_pos e]
    by_cases e2 : M.1 21 i 0 ≠ -1 ∧ no = M.1 20 i 0
    · rw [if_pos e2]
      refine h.upd (i := i) (Nat.le_refl _) (mAt.rf.set (by decide)) (fun hi hr ⟨v1, v2, v3, v4, v5⟩ => ⟨v1.of (mSet_ne (by omega)) (mSet_ne (by omega)) (mSet_ne (by omega)), v2.set (by decide), fun q => ⟨by rw [mSet_ne (by omega)]; exact (v3 q).1, by rw [mSet_ne (by omega)]; exact (v3 q).2⟩, v4, ?_⟩)
      unfold mVp at v5 ⊢
      rw [mSet_eq, mSet_ne (by omega), mSet_ne (by omega), mSet_ne (by omega), mSet_ne (by omega), mSet_ne (by omega), mSet_ne (by omega)]
      exact ⟨v5.1, ⟨1, by omega, rfl⟩, fun q => absurd q e2.1, v5.2.2.2⟩
    · rw [if_neg e2]; exact h
  · rw [if_neg e]
    cases hf : mFind (M.2.1 i) no o g with
    | none => exact h
    | some k => exact (h.rl (fun v => v.erase (k := k)) hi hr).send hi hr ho ho hg
theorem mInv.ask {n D : Nat} {ow : Nat → Bool} {M : mM} (h : mInv n D ow M) {i : Nat} (hi : i < n) (hr : mRn M i) {no o g : Int32} (ho : isN n o) (hg : isN n g) : mInv n D ow (mAsk n M i no o g) := by
  unfold mAsk
  by_cases e : 4 ≤ (M.2.1 i).length
  · rw [if_pos e]; exact h
  · rw [if_neg e]
    exact (h.rl (fun v => v.add (by omega) ho hg) hi hr).send hi hr hg ho hg
theorem isN_0 {n D : Nat} {ow : Nat → Bool} {M : mM} (h : mInv n D ow M) : isN n 0 := ⟨0, by have := h.1; omega, rfl⟩
theorem mInv.take {n D : Nat} {ow : Nat → Bool} {M : mM} (h : mInv n D ow M) {i : Nat} (hi : i < n) (hr : mRn M i) {msg : List Int32} (hm : mWf n msg) : mInv n (D + 1) ow (mTake n M i msg) := by
  obtain ⟨c, c8, hl, h6, h1, h2, h4, h5, h7⟩ := hm
  unfold mTake
  by_cases e1 : msg.getD 0 0 = 1
  · rw [if_pos e1]; exact (h.send hi hr h1 h4 h5).mono (by omega)
  · rw [if_neg e1]
    by_cases e2 : msg.getD 0 0 = 2
    · rw [if_pos e2]; exact (h.ack hi hr h4 h5).mono (by omega)
    · rw [if_neg e2]
      by_cases e3 : msg.getD 0 0 = 3
      · rw [if_pos e3]; exact (h.ask hi hr h4 h5).mono (by omega)
      · rw [if_neg e3]
        by_cases e4 : msg.getD 0 0 = 4
        · rw [if_pos e4]
          by_cases e5 : M.1 21 i 0 ≠ -1 ∧ msg.getD 3 0 = M.1 20 i 0
          · rw [if_pos e5]
            refine h.upd (i := i) (by omega) (mAt.rf.set (by decide)) (fun hi hr ⟨v1, v2, v3, v4, v5⟩ => ⟨v1.of (mSet_ne (by omega)) (mSet_ne (by omega)) (mSet_ne (by omega)), v2.set (by decide), fun q => ⟨by rw [mSet_ne (by omega)]; exact (v3 q).1, by rw [mSet_ne (by omega)]; exact (v3 q).2⟩, v4, ?_⟩)
            unfold mVp at v5 ⊢
            rw [mSet_eq, mSet_ne (by omega), mSet_ne (by omega), mSet_ne (by omega), mSet_ne (by omega), mSet_ne (by omega), mSet_ne (by omega)]
            refine ⟨v5.1, v5.2.1, v5.2.2.1, fun q => ?_⟩
            obtain ⟨z0, c, a, k, z1, z2, z3, z4, z5, z6, z7⟩ := v5.2.2.2 q
            exact ⟨z0, c, a, k + 1, z1, z2, by omega, z4, z5, by rw [z6, nI_1], z7⟩
          · rw [if_neg e5]; exact h.mono (by omega)
        · rw [if_neg e4]
          by_cases e6 : msg.getD 0 0 = 6
          · rw [if_pos e6]; exact (h.send hi hr h1 (isN_0 h) (isN_0 h)).mono (by omega)
          · rw [if_neg e6]; exact h.mono (by omega)
theorem mWf_many {n : Nat} {msg : List Int32} (h : mWf n msg) : 7 + 3 * (msg.getD 6 0).toNatClampNeg = msg.length ∧ (msg.getD 6 0).toNatClampNeg ≤ 8 := by
  obtain ⟨c, c8, hl, h6, _⟩ := h
  rw [h6, nI_clamp (by omega)]
  exact ⟨hl.symm, c8⟩
theorem mInv.recv {n D : Nat} {ow : Nat → Bool} {M : mM} (h : mInv n D ow M) {i : Nat} (hi : i < n) (hr : mRn M i) (how : ow i = false) {msg : List Int32} (hm : mVm n msg) {w : Int32} : mInv n (D + 1) ow (mRecv n M i msg w) := by
  obtain ⟨a, b⟩ := h.learns (w := w) how hm (msg.getD 6 0).toNatClampNeg (Nat.le_of_eq (mWf_many hm.1).1)
  exact a.take hi ((mAt_rn b).mpr hr) hm.1
