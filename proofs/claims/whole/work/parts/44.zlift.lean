theorem zneg2 {x : Int32} (h : 0 < x) : -x < 0 := by
  rw [Int32.lt_iff_toInt_lt] at h ⊢
  rw [Int32.toInt_neg]
  have h1 := x.toInt_lt
  have h0 : (0 : Int32).toInt = 0 := rfl
  rw [h0] at h ⊢
  have : (-x.toInt).bmod (2 ^ 32) = -x.toInt := by
    apply Int.bmod_eq_of_le <;> omega
  omega
/-! the reference's send, lifted -/
theorem DR.tr {G : gG} {M M' : mM} {ow : Nat → Bool} {S S' : gS} (h : DR G M ow S) (h2 : S'.2 = S.2) (hm : ∀ f i j, f ≠ 4 → M'.1 f i j = M.1 f i j) (hr : M'.2.1 = M.2.1) (hoff : ∀ K x, 21 ≤ K → K ≠ 21 → K ≠ 22 → K ≠ 31 → S'.1 (K, 0, 0) x = S.1 (K, 0, 0) x) (h20 : ∀ f, f < 2 → S'.1 (20, 0, 0) f = S.1 (20, 0, 0) f) (hF : DFl S' M'.2.2) (h31 : C64 G S' M' 31 4 (fun i _ => mRn M' i)) (hnw : ∀ i j, i < G.1 → j < G.1 → mNw M' i j → mNw M i j) : DR G M' ow S' := by
  obtain ⟨d0, d1, d2, d3, d4, d5, d6, d7, d8, d9, d10, d11, d12, d13, d14, d15, d16, d17, d18, d19, d20, d21, d22, d23, d24, d25, d26⟩ := h
  have er : ∀ i, mRn M' i → mRn M i := fun i q => by unfold mRn at q ⊢; rwa [hm _ _ _ (by omega)] at q
  have ep : ∀ i, mPb M' i → mPb M i := fun i q => ⟨er i q.1, by have := q.2; rwa [hm _ _ _ (by omega)] at this⟩
  have eo : ∀ i j, mOw M' ow i j → mOw M ow i j := fun i j q => ⟨er i q.1, q.2⟩
  have c8 : ∀ K f Pr Pr', 23 ≤ K → K ≠ 31 → f ≠ 4 → (∀ i, Pr' i → Pr i) → C8 G S M K f Pr → C8 G S' M' K f Pr' := fun K f Pr Pr' hK h31 hf hp hc i hi q => by
    rw [hoff K i (by omega) (by omega) (by omega) h31, hm f i 0 hf]
    exact hc i hi (hp i q)
  have c64 : ∀ K f Pr Pr', 23 ≤ K → K ≠ 31 → f ≠ 4 → (∀ i j, i < G.1 → j < G.1 → Pr' i j → Pr i j) → C64 G S M K f Pr → C64 G S' M' K f Pr' := fun K f Pr Pr' hK h31 hf hp hc i j hi hj q => by
    rw [hoff K _ (by omega) (by omega) (by omega) h31, hm f i j hf]
    exact hc i j hi hj (hp i j hi hj q)
  refine ⟨d0.of (fun _ _ _ _ => by rw [h2]), d1, by rw [h20 0 (by omega)]; exact d2, by rw [h20 1 (by omega), hm _ _ _ (by omega)]; exact d3, hF, c64 _ _ _ _ (by omega) (by omega) (by omega) (fun _ _ _ _ q => q) d5, c8 _ _ _ _ (by omega) (by omega) (by omega) (fun _ q => q) d6,
    c8 _ _ _ _ (by omega) (by omega) (by omega) er d7, c8 _ _ _ _ (by omega) (by omega) (by omega) er d8, c8 _ _ _ _ (by omega) (by omega) (by omega) er d9, c8 _ _ _ _ (by omega) (by omega) (by omega) er d10, c8 _ _ _ _ (by omega) (by omega) (by omega) er d11, c8 _ _ _ _ (by omega) (by omega) (by omega) er d12,
    fun i hi q => ?_, c8 _ _ _ _ (by omega) (by omega) (by omega) ep d14, c8 _ _ _ _ (by omega) (by omega) (by omega) ep d15, c8 _ _ _ _ (by omega) (by omega) (by omega) ep d16, c8 _ _ _ _ (by omega) (by omega) (by omega) ep d17, c8 _ _ _ _ (by omega) (by omega) (by omega) ep d18,
    fun i hi q => ?_, c64 _ _ _ _ (by omega) (by omega) (by omega) (fun i j _ _ => eo i j) d20, c64 _ _ _ _ (by omega) (by omega) (by omega) (fun i j _ _ => er i) d21, c64 _ _ _ _ (by omega) (by omega) (by omega) (fun i j _ _ => eo i j) d22, c64 _ _ _ _ (by omega) (by omega) (by omega) (fun i j _ _ => eo i j) d23, h31, c64 _ _ _ _ (by omega) (by omega) (by omega) hnw d25, c64 _ _ _ _ (by omega) (by omega) (by omega) hnw d26⟩
  · rw [hoff 36 i (by omega) (by omega) (by omega) (by omega), hm _ _ _ (by omega)]
    exact d13 i hi (er i q)
  · rw [hr, hoff 34 i (by omega) (by omega) (by omega) (by omega)]
    obtain ⟨a, b, c⟩ := d19 i hi (er i q)
    exact ⟨a, b, fun k hk f hf => by rw [hoff 35 _ (by omega) (by omega) (by omega) (by omega)]; exact c k hk f hf⟩
theorem zPush_o {S : gS} {z : Nat} {K : gK} {x : Nat} (h21 : K ≠ (21, 0, 0)) (h20 : K = (20, 0, 0) → x ≠ 2) : (zPush S z).1 K x = S.1 K x := by
  unfold zPush
  split
  · rfl
  · rw [gI1, if_neg (fun q => h20 q.1 q.2), zCopy_o h21]
theorem zPush_2 {S : gS} {z : Nat} : (zPush S z).2 = S.2 := by unfold zPush; split <;> rfl
theorem DFl.push {S S1 : gS} {fl : List (List Int32)} {msg : List Int32} (h : DFl S fl) (h21 : ∀ x, S1.1 (21, 0, 0) x = S.1 (21, 0, 0) x) (hz : S1.1 (20, 0, 0) 2 = S.1 (20, 0, 0) 2) (hl : msg.length ≤ 32) (hm : ∀ j, j < msg.length → S1.1 (22, 0, 0) j = msg.getD j 0) : DFl (zPush S1 fl.length) (if fl.length = 60 then fl else fl ++ [msg]) := by
  obtain ⟨a, b, c⟩ := h
  by_cases e : fl.length = 60
  · unfold zPush
    rw [if_pos e, if_pos e]
    exact ⟨by rw [hz]; exact a, b, fun k hk => ⟨(c k hk).1, fun j hj => by rw [h21]; exact (c k hk).2 j hj⟩⟩
  · unfold zPush
    rw [if_neg e, if_neg e]
    refine ⟨by rw [gI1, if_pos ⟨rfl, rfl⟩, List.length_append]; rfl, by rw [List.length_append]; simp only [List.length_cons, List.length_nil]; omega, fun k hk => ?_⟩
    rw [List.length_append] at hk
    simp only [List.length_cons, List.length_nil] at hk
    by_cases ek : k = fl.length
    · have eg : (fl ++ [msg]).getD k [] = msg := by
        rw [ek, List.getD_eq_getElem?_getD, List.getElem?_append_right (Nat.le_refl _)]; simp
      rw [eg]
      refine ⟨hl, fun j hj => ?_⟩
      rw [gI1, if_neg (fun q => by simp at q)]
      show (if _ then _ else _) = _
      rw [if_pos ⟨rfl, by omega, by omega⟩]
      have : 32 * k + j - 32 * fl.length = j := by omega
      rw [this]
      exact hm j hj
    · have eg : (fl ++ [msg]).getD k [] = fl.getD k [] := by
        rw [List.getD_eq_getElem?_getD, List.getElem?_append_left (by omega), ← List.getD_eq_getElem?_getD]
      rw [eg]
      refine ⟨(c k (by omega)).1, fun j hj => ?_⟩
      rw [gI1, if_neg (fun q => by simp at q)]
      show (if _ then _ else _) = _
      have := (c k (by omega)).1
      rw [if_neg (by omega), h21]
      exact (c k (by omega)).2 j hj
theorem mMsg_at {M : mM} {i : Nat} {l : List Nat} {kind to no o g : Int32} {S : gS} (hf : ∀ f, f < 6 → S.1 (22, 0, 0) f = [kind, nI i, to, no, o, g].getD f 0) (hc : S.1 (22, 0, 0) 6 = nI l.length) (hn : ∀ t, t < l.length → S.1 (22, 0, 0) (7 + 3 * t) = nI (l.getD t 0) ∧ S.1 (22, 0, 0) (7 + 3 * t + 1) = M.1 0 i (l.getD t 0) ∧ S.1 (22, 0, 0) (7 + 3 * t + 2) = M.1 1 i (l.getD t 0)) :
    (mMsg kind (nI i) to no o g l.length (mNews M i l)).length = 7 + 3 * l.length ∧ ∀ j, j < (mMsg kind (nI i) to no o g l.length (mNews M i l)).length → S.1 (22, 0, 0) j = (mMsg kind (nI i) to no o g l.length (mNews M i l)).getD j 0 := by
  have hl : (mMsg kind (nI i) to no o g l.length (mNews M i l)).length = 7 + 3 * l.length := by
    show ([_, _, _, _, _, _, _] ++ mNews M i l).length = _
    rw [List.length_append, mNews_len]; rfl
  refine ⟨hl, fun j hj => ?_⟩
  rw [hl] at hj
  by_cases e : j < 6
  · rw [hf j e, mMsg_0 j e]
  · by_cases e6 : j = 6
    · subst e6; exact hc
    · obtain ⟨x, rfl⟩ : ∃ x, j = 7 + x := ⟨j - 7, by omega⟩
      have ex : (mMsg kind (nI i) to no o g l.length (mNews M i l)).getD (7 + x) 0 = (mNews M i l).getD x 0 := by
        rw [Nat.add_comm]; rfl
      rw [ex]
      have ht : x / 3 < l.length := by omega
      obtain ⟨n1, n2, n3⟩ := mNews_at (M := M) (i := i) ht
      obtain ⟨s1, s2, s3⟩ := hn _ ht
      have : x = 3 * (x / 3) ∨ x = 3 * (x / 3) + 1 ∨ x = 3 * (x / 3) + 2 := by omega
      rcases this with q | q | q
      · rw [q, s1, n1]
      · rw [q, n2, ← s2]; rfl
      · rw [q, n3, ← s3]; rfl
theorem mSend_rn {n : Nat} {M : mM} {kind : Int32} {i i' : Nat} {to no o g : Int32} (h : mRn (mSend n M kind i to no o g) i') : mRn M i' := by
  unfold mRn at h ⊢
  rwa [mSend_1 (by decide)] at h
theorem zFix_31 {S : gS} {i k x : Nat} : (zFix S i k).1 (31, 0, 0) x = if (∃ m, m < k ∧ x = 8 * i + m) ∧ S.1 (31, 0, 0) x < 0 then -(S.1 (31, 0, 0) x) - 1 else S.1 (31, 0, 0) x := by
  show (if (31, 0, 0) = (31, 0, 0) ∧ _ then _ else _) = _
  simp only [true_and]
theorem gc_zsend {G : gG} {la : Launch} {M : mM} {ow : Nat → Bool} {S : gS} {i : Nat} {kind to no o g : Int32} (hi : i < G.1) (h : DR G M ow S) (hrun : mRn M i) (hk : (kind = 6 ∨ kind = 7) ∨ kind < 6) (how : kind = 6 ∨ kind = 7 → ow i = false) (hpos : ∀ j, j < G.1 → 0 ≤ M.1 4 i j) (hst0 : ∀ j, j < G.1 → 0 ≤ M.1 0 i j) :
    gM G la qy_Z_send qw_Z_send 2 0 0 (gTt G) (gTt G) [.inr (some (20, 0, 0)), .inl kind, .inl (nI i), .inl to, .inl no, .inl o, .inl g] S (fun v S' => v = none ∧ DR G (mSend G.1 M kind i to no o g) ow S' ∧ gFc S S') := by
  have h0 := h
  obtain ⟨d0, d1, d2, d3, d4, d5, d6, d7, d8, d9, d10, d11, d12, d13, d14, d15, d16, d17, d18, d19, d20, d21, d22, d23, d24, d25, d26⟩ := h
  have h8 := d1.1
  by_cases hk6 : kind < 6
  · have hnk : ¬ (kind = 6 ∨ kind = 7) := fun q => by
      rcases q with rfl | rfl <;> exact absurd hk6 (by decide)
    have hq : ∀ m, m < G.1 → qz S i m = M.1 4 i m := fun m hm => d24 i m hi hm hrun
    refine gM_mono (gc_Z_sendQ hi d0 h8 d2 d4.1 d4.2.1 hk6 (fun m hm => by rw [hq m hm]; exact hpos m hm)) (fun v S' q => ⟨q.1, ?_⟩)
    obtain ⟨-, rfl⟩ := q
    have et : mPick G.1 3 (qz S i) = mPk G.1 M i := mPick_congr hq
    rw [et]
    have hnd : (mPk G.1 M i).Nodup := mPick_nd
    have hin : ∀ m ∈ mPk G.1 M i, m < G.1 ∧ 0 < M.1 4 i m := fun m hm => mPick_in hm
    have hl3 : (mPk G.1 M i).length ≤ 3 := mPick_len
    have e : mSend G.1 M kind i to no o g = mPush (mSpend M i (mPk G.1 M i)) (mMsg kind (nI i) to no o g (mPk G.1 M i).length (mNews M i (mPk G.1 M i))) := by
      unfold mSend
      rw [if_neg hnk]
    have e1 : (mSend G.1 M kind i to no o g).1 = (mSpend M i (mPk G.1 M i)).1 := by rw [e]; unfold mPush; split <;> rfl
    have e2 : (mSend G.1 M kind i to no o g).2.2 = if M.2.2.length = 60 then M.2.2 else M.2.2 ++ [mMsg kind (nI i) to no o g (mPk G.1 M i).length (mNews M i (mPk G.1 M i))] := by
      rw [e]; unfold mPush
      by_cases q : M.2.2.length = 60
      · rw [if_pos q, if_pos (show (mSpend M i (mPk G.1 M i)).2.2.length = 60 from q)]; rfl
      · rw [if_neg q, if_neg (show ¬ (mSpend M i (mPk G.1 M i)).2.2.length = 60 from q)]; rfl
    have h6 : (zHdr S kind (nI i) to no o g).1 (22, 0, 0) 6 = nI 0 := zHdr_f 6 (by decide)
    obtain ⟨t1, t2, t3⟩ := zQ_22 (i := i) (l := mPk G.1 M i) (c := 0) h6
    have hoff : ∀ K x, K ≠ (22, 0, 0) → K ≠ (31, 0, 0) → (zFix (zQ i (mPk G.1 M i) 0 (zHdr S kind (nI i) to no o g)) i G.1).1 K x = S.1 K x := fun K x a b => by rw [zFix_o b, zQ_off a b, zHdr_o a]
    have h22 : ∀ x, (zFix (zQ i (mPk G.1 M i) 0 (zHdr S kind (nI i) to no o g)) i G.1).1 (22, 0, 0) x = (zQ i (mPk G.1 M i) 0 (zHdr S kind (nI i) to no o g)).1 (22, 0, 0) x := fun x => zFix_o (by simp)
    refine ⟨h0.tr ?_ (fun f i' j hf => mSend_1 hf) mSend_r (fun K x hK a b c => ?_) (fun f hf => ?_) ?_ (fun i' j hi' hj hr => ?_) (fun i' j hi' hj hnw => ?_), fun k hk => ⟨?_, ?_⟩⟩
    · rw [zPush_2]; show (zQ _ _ _ _).2 = _; rw [zQ_2]; rfl
    · rw [zPush_o (by simpa using a) (fun q => by simp at q; omega), hoff _ _ (by simpa using b) (by simpa using c)]
    · rw [zPush_o (by simp) (fun _ => by omega), hoff _ _ (by simp) (by simp)]
    · rw [e2]
      have hmm := mMsg_at (M := M) (i := i) (l := mPk G.1 M i) (kind := kind) (to := to) (no := no) (o := o) (g := g) (S := zFix (zQ i (mPk G.1 M i) 0 (zHdr S kind (nI i) to no o g)) i G.1) (fun f hf => ?_) ?_ (fun t ht => ?_)
      · exact d4.push (fun x => hoff _ _ (by simp) (by simp)) (hoff _ _ (by simp) (by simp)) (by rw [hmm.1]; omega) hmm.2
      · rw [h22, t1 f (by omega) (by omega), zHdr_f f (by omega)]
        match f, hf with
        | 0, _ => rfl
        | 1, _ => rfl
        | 2, _ => rfl
        | 3, _ => rfl
        | 4, _ => rfl
        | 5, _ => rfl
        | f + 6, h => exact absurd h (by omega)
      · rw [h22, t2, Nat.zero_add]
      · have hx := t3 t ht
        rw [Nat.zero_add] at hx
        have hmem : (mPk G.1 M i).getD t 0 ∈ mPk G.1 M i := by rw [List.getD_eq_getElem?_getD, List.getElem?_eq_getElem ht]; exact List.getElem_mem ht
        have hb := hin _ hmem
        rw [h22, h22, h22, hx.1, hx.2.1, hx.2.2, zHdr_o (by simp), zHdr_o (by simp), d25 i _ hi hb.1 ⟨hrun, hb.2⟩, d26 i _ hi hb.1 ⟨hrun, hb.2⟩]
        exact ⟨rfl, rfl, rfl⟩
    · have hr' : mRn M i' := mSend_rn hr
      rw [zPush_o (by simp) (fun q => by simp at q), e1]
      have hs := d24 i' j hi' hj hr'
      have rhs : (mSpend M i (mPk G.1 M i)).1 4 i' j = if i' = i ∧ j ∈ mPk G.1 M i then M.1 4 i j - 1 else M.1 4 i' j := by
        show (if 4 = 4 ∧ i' = i ∧ j ∈ mPk G.1 M i then M.1 4 i j - 1 else M.1 4 i' j) = _
        simp only [true_and]
      rw [zFix_31, zQ_31 hnd, zHdr_o (by simp), hs, rhs]
      by_cases ei : i' = i ∧ j ∈ mPk G.1 M i
      · obtain ⟨rfl, hjl⟩ := ei
        have hb := hin j hjl
        have x1 : ∃ m ∈ mPk G.1 M i', 8 * i' + j = 8 * i' + m := ⟨j, hjl, rfl⟩
        have x2 : (∃ m, m < G.1 ∧ 8 * i' + j = 8 * i' + m) ∧ -(M.1 4 i' j) < 0 := ⟨⟨j, hj, rfl⟩, zneg2 hb.2⟩
        rw [if_pos x1, if_pos x2, if_pos ⟨rfl, hjl⟩, Int32.neg_neg]
      · have n1 : ¬ ∃ m ∈ mPk G.1 M i, 8 * i' + j = 8 * i + m := by
          rintro ⟨m, hm, q⟩
          have := (hin m hm).1
          have e3 : i' = i := by omega
          have e4 : j = m := by omega
          exact ei ⟨e3, by rw [e4]; exact hm⟩
        rw [if_neg n1, if_neg ei]
        by_cases e3 : i' = i
        · subst e3
          rw [if_neg (fun q => absurd q.2 (Int32.not_lt.mpr (hpos j hj)))]
        · have n2 : ¬ ((∃ m, m < G.1 ∧ 8 * i' + j = 8 * i + m) ∧ M.1 4 i' j < 0) := fun q => by
            obtain ⟨m, hm, z⟩ := q.1
            exact e3 (by omega)
          rw [if_neg n2]
    · refine ⟨mSend_rn hnw.1, ?_⟩
      have h4 := hnw.2
      rw [e1] at h4
      by_cases q : i' = i ∧ j ∈ mPk G.1 M i
      · rw [q.1]; exact (hin j q.2).2
      · rwa [show (mSpend M i (mPk G.1 M i)).1 4 i' j = M.1 4 i' j from if_neg (fun z => q z.2)] at h4
    · funext f
      rw [zPush_o (fun q => by rw [q] at hk; simp at hk) (fun q => by rw [q] at hk; simp at hk), hoff _ _ (fun q => by rw [q] at hk; simp at hk) (fun q => by rw [q] at hk; simp at hk)]
    · rw [zPush_2]; show (zQ _ _ _ _).2 _ = _; rw [zQ_2]; rfl
  · have hk67 : kind = 6 ∨ kind = 7 := hk.resolve_right hk6
    have hoi := how hk67
    have hs27 : ∀ m, m < G.1 → S.1 (27, 0, 0) (8 * i + m) = M.1 0 i m := fun m hm => d20 i m hi hm ⟨hrun, fun q => by rw [hoi] at q; cases q.1⟩
    refine gM_mono (gc_Z_sendT hi d0 h8 d2 d4.1 d4.2.1 hk6) (fun v S' q => ⟨q.1, ?_⟩)
    obtain ⟨-, rfl⟩ := q
    have et : zTl S i G.1 = mTable G.1 M i := by
      unfold zTl mTable
      apply List.filter_congr
      intro m hm
      have hm := List.mem_range.mp hm
      rw [hs27 m hm]
      congr 1
      rw [decide_eq_decide]
      constructor
      · intro q; exact Int32.le_antisymm q (hst0 m hm)
      · intro q; rw [q]; exact Int32.le_refl _
    rw [et]
    have hl8 : (mTable G.1 M i).length ≤ 8 := Nat.le_trans mTable_len h8
    have hin : ∀ m ∈ mTable G.1 M i, m < G.1 := fun m hm => mTable_in hm
    have e : mSend G.1 M kind i to no o g = mPush M (mMsg kind (nI i) to no o g (mTable G.1 M i).length (mNews M i (mTable G.1 M i))) := by
      unfold mSend
      rw [if_pos hk67]
    have e1 : (mSend G.1 M kind i to no o g).1 = M.1 := by rw [e]; unfold mPush; split <;> rfl
    have e2 : (mSend G.1 M kind i to no o g).2.2 = if M.2.2.length = 60 then M.2.2 else M.2.2 ++ [mMsg kind (nI i) to no o g (mTable G.1 M i).length (mNews M i (mTable G.1 M i))] := by
      rw [e]; unfold mPush
      split <;> rfl
    have h6 : (zHdr S kind (nI i) to no o g).1 (22, 0, 0) 6 = nI 0 := zHdr_f 6 (by decide)
    obtain ⟨t1, t2, t3⟩ := zTab_22 (i := i) (l := mTable G.1 M i) (c := 0) h6
    have hoff : ∀ K x, K ≠ (22, 0, 0) → (zTab i (mTable G.1 M i) 0 (zHdr S kind (nI i) to no o g)).1 K x = S.1 K x := fun K x a => by rw [zTab_off a, zHdr_o a]
    refine ⟨h0.tr ?_ (fun f i' j hf => mSend_1 hf) mSend_r (fun K x hK a b c => ?_) (fun f hf => ?_) ?_ (fun i' j hi' hj hr => ?_) (fun i' j hi' hj hnw => ?_), fun k hk => ⟨?_, ?_⟩⟩
    · rw [zPush_2, zTab_2]; rfl
    · rw [zPush_o (by simpa using a) (fun q => by simp at q; omega), hoff _ _ (by simpa using b)]
    · rw [zPush_o (by simp) (fun _ => by omega), hoff _ _ (by simp)]
    · rw [e2]
      have hmm := mMsg_at (M := M) (i := i) (l := mTable G.1 M i) (kind := kind) (to := to) (no := no) (o := o) (g := g) (S := zTab i (mTable G.1 M i) 0 (zHdr S kind (nI i) to no o g)) (fun f hf => ?_) ?_ (fun t ht => ?_)
      · exact d4.push (fun x => hoff _ _ (by simp)) (hoff _ _ (by simp)) (by rw [hmm.1]; omega) hmm.2
      · rw [t1 f (by omega) (by omega), zHdr_f f (by omega)]
        match f, hf with
        | 0, _ => rfl
        | 1, _ => rfl
        | 2, _ => rfl
        | 3, _ => rfl
        | 4, _ => rfl
        | 5, _ => rfl
        | f + 6, h => exact absurd h (by omega)
      · rw [t2, Nat.zero_add]
      · have hx := t3 t ht
        rw [Nat.zero_add] at hx
        have hmem : (mTable G.1 M i).getD t 0 ∈ mTable G.1 M i := by rw [List.getD_eq_getElem?_getD, List.getElem?_eq_getElem ht]; exact List.getElem_mem ht
        have hb := hin _ hmem
        rw [hx.1, hx.2.1, hx.2.2, zHdr_o (by simp), zHdr_o (by simp), hs27 _ hb, d21 i _ hi hb hrun]
        exact ⟨rfl, rfl, rfl⟩
    · rw [zPush_o (by simp) (fun q => by simp at q), e1, hoff _ _ (by simp)]
      exact d24 i' j hi' hj (mSend_rn hr)
    · exact ⟨mSend_rn hnw.1, by have := hnw.2; rwa [e1] at this⟩
    · funext f
      rw [zPush_o (fun q => by rw [q] at hk; simp at hk) (fun q => by rw [q] at hk; simp at hk), hoff _ _ (fun q => by rw [q] at hk; simp at hk)]
    · rw [zPush_2, zTab_2]; rfl
