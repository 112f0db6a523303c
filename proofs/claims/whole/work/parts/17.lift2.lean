theorem gM_mono {G : gG} {l : Launch} {y : MethodName} {ws : List Cond} {d mc ms t t' : Nat} {av : List gV} {S : gS} {Rt Rt' : Option gV → gS → Prop} (h : gM G l y ws d mc ms t t' av S Rt) (hm : ∀ v S', Rt v S' → Rt' v S') : gM G l y ws d mc ms t t' av S Rt' := by
  unfold gM Met at h ⊢
  refine MetFree.mono h (fun _ _ q => q) (fun _ _ _ _ _ q => q) (fun a s o u _ q => ?_)
  obtain ⟨⟨⟨v, S', h1, h2, h3⟩, h4⟩, h5⟩ := q
  exact ⟨⟨⟨v, S', h1, hm v S' h2, h3⟩, h4⟩, h5⟩
theorem mSpend_nil {M : mM} {i : Nat} : mSpend M i [] = M := by
  unfold mSpend
  have : (fun f' i' j' => if f' = 4 ∧ i' = i ∧ j' ∈ ([] : List Nat) then M.1 4 i j' - 1 else M.1 f' i' j') = M.1 := by
    funext f' i' j'
    rw [if_neg (fun q => by cases q.2.2)]
  rw [this]
theorem offMsg_q {S : gS} {a i : Nat} {l : List Nat} {v : Int32} {kind s r no o g : Int32} : offMsg S (sQ a i l 0 (sHdr (gI S (3, 0, 0) 3 v) a kind s r no o g)) a := by
  refine ⟨by rw [sQ_2]; rfl, fun k f h6 h5 h9 h3 => ?_, fun a' j ha => ?_⟩
  · rw [sQ_off h6 (fun q => absurd q h5) (fun q => absurd q h9), sHdr_o h5, gI1, if_neg (fun q => h3 q.1)]
  · rw [sQ_o ha, sHdr_o (by simp), gI1, if_neg (fun q => by simp at q)]
theorem offMsg_t {S : gS} {a i : Nat} {l : List Nat} {v : Int32} {kind s r no o g : Int32} : offMsg S (sLoad a i l 0 (sHdr (gI S (3, 0, 0) 3 v) a kind s r no o g)) a := by
  refine ⟨by rw [sLoad_2]; rfl, fun k f h6 h5 h9 h3 => ?_, fun a' j ha => ?_⟩
  · rw [sLoad_off h6 (fun q => absurd q h5), sHdr_o h5, gI1, if_neg (fun q => h3 q.1)]
  · rw [sLoad_o ha, sHdr_o (by simp), gI1, if_neg (fun q => by simp at q)]
theorem gI_id {S : gS} {k : gK} {f : Nat} : gI S k f (S.1 k f) = S := by
  have : (gI S k f (S.1 k f)).1 = S.1 := by
    funext k' f'
    rw [gI1]
    by_cases h : k' = k ∧ f' = f
    · rw [if_pos h, h.1, h.2]
    · rw [if_neg h]
  exact Prod.ext this rfl
/-- where the next message goes -/
theorem CF.next {G : gG} {la : Launch} {S : gS} {fl : List (List Int32)} {p i0 : Nat} {kc : Option (Nat × List Int32)} (h : CF S fl p i0 kc) (hst : gSt G S) (hp : p = 0 ∨ fl.length < 60) : ∃ (a : Nat) (v : Int32), a < 121 ∧
    gM G la qy_F_next qw_F_next 0 0 0 (gTt G) (gTt G) [.inr (some (3, 0, 0))] S (fun v' S' => v' = some (.inr (some (5, a, 0))) ∧ S' = gI S (3, 0, 0) 3 v) ∧
    ∀ (S' : gS) (m : List Int32), offMsg S S' a → S'.1 (3, 0, 0) 3 = v → isMsg S' a m → CF S' (if fl.length = 60 then fl else fl ++ [m]) p i0 kc := by
  have h0 := h
  obtain ⟨b, σ, hb, h1, h2, h3, h4, h5, h6, h7, h8, h9, h10, h11⟩ := h
  by_cases hz : fl.length - p < 60
  · have ha := (h3 b _ hb hz)
    refine ⟨σ b (fl.length - p), nI (fl.length - p + 1), by omega, gc_F_next hb h1 h7 hz hst ha.1, fun S' m ho hv hm => ?_⟩
    have e : ¬ fl.length = 60 := by rcases hp with rfl | hp <;> omega
    rw [if_neg e]
    refine h0.push hz (a := σ b (fl.length - p)) (fun b' σ' hb' q1 q2 => ?_) ho hv hm
    have eb : b' = b := by
      have := q1.symm.trans h1
      simpa using this
    subst eb
    have := q2.symm.trans ha.1
    simpa using this
  · have e60 : fl.length - p = 60 := by omega
    rw [e60] at h7
    have ep : p = 0 := by rcases hp with h | h; exact h; omega
    refine ⟨120, nI 60, by omega, ?_, fun S' m ho hv hm => ?_⟩
    · have := gc_F_nextFull (la := la) hst h7
      refine gM_mono this (fun v S' q => ⟨q.1, ?_⟩)
      rw [q.2, ← h7, gI_id]
    · rw [if_pos (by omega)]
      exact h0.keep ho (by rw [hv, h7])
theorem gc_send {G : gG} {la : Launch} {M : mM} {p i0 : Nat} {kc : Option (Nat × List Int32)} {S : gS} {i : Nat} {kind to no o g : Int32} (hi : i < G.1) (h : CR G M p i0 kc S) (hp : p = 0 ∨ M.2.2.length < 60) :
    gM G la qy_N_send qw_N_send 2 0 0 (gTt G) (gTt G) [.inr (some (7, i, 0)), .inl kind, .inl to, .inl no, .inl o, .inl g] S (fun v S' => v = none ∧ CR G (mSend G.1 M kind i to no o g) p i0 kc S' ∧ gFr S S') := by
  have h0 := h
  obtain ⟨hK, hE, hN, hL, hC, hF⟩ := h
  obtain ⟨a, v, ha, hM, hpost⟩ := hF.next (la := la) hK.1 hp
  have hK1 : cK G (gI S (3, 0, 0) 3 v) := hK.I (by simp)
  by_cases hk : kind = 6 ∨ kind = 7
  · refine gM_mono (gc_N_sendT hi ha hK hK1 hM hk) (fun v' S' q => ⟨q.1, ?_⟩)
    obtain ⟨-, rfl⟩ := q
    have et : mTab (gI S (3, 0, 0) 3 v) i G.1 = mTable G.1 M i := by
      unfold mTab mTable
      apply List.filter_congr
      intro m hm
      rw [gI1, if_neg (fun q => by simp at q), hE i m 0 hi (List.mem_range.mp hm) (by decide)]
    have e : mSend G.1 M kind i to no o g = mPush (mSpend M i []) (mMsg kind (nI i) to no o g (mTable G.1 M i).length (mNews M i (mTable G.1 M i))) := by
      unfold mSend
      rw [if_pos hk, mSpend_nil]
    rw [e, et]
    have ho := offMsg_t (S := S) (a := a) (i := i) (l := mTable G.1 M i) (v := v) (kind := kind) (s := nI i) (r := to) (no := no) (o := o) (g := g)
    refine h0.sent ho (fun k hk => ?_) hi (fun i' j f hi' hj hf => ?_) (hpost _ _ ho ?_ ?_)
    · funext f
      exact ho.2.1 k f (fun q => by omega) (fun q => by rw [q] at hk; simp at hk) (fun q => by omega) (fun q => by rw [q] at hk; simp at hk)
    · rw [mSpend_nil, sLoad_off (by simp) (fun q => by cases q), sHdr_o (by simp), gI1, if_neg (fun q => by simp at q)]
      exact hE i' j f hi' hj hf
    · rw [sLoad_off (by simp) (fun q => by cases q), sHdr_o (by simp), gI1, if_pos ⟨rfl, rfl⟩]
    · refine isMsg_new (Nat.le_trans mTable_len hK.2.1) (fun f hf => ?_) ?_ (fun t ht => ?_)
      · rw [sLoad_off (by simp) (fun _ => by omega), sHdr_f f hf]
      · rw [sLoad_c (c := 0) sHdr_6, Nat.zero_add]
      · have hn := (sLoad_n (a := a) (i := i) (l := mTable G.1 M i) (c := 0) (S := sHdr (gI S (3, 0, 0) 3 v) a kind (nI i) to no o g)).2 t ht
        rw [Nat.zero_add] at hn
        have hmn : (mTable G.1 M i).getD t 0 < G.1 := by
          have : (mTable G.1 M i).getD t 0 ∈ mTable G.1 M i := by rw [List.getD_eq_getElem?_getD, List.getElem?_eq_getElem ht]; exact List.getElem_mem ht
          exact mTable_in this
        rw [sHdr_o (by simp), sHdr_o (by simp), gI1, if_neg (fun q => by simp at q), gI1, if_neg (fun q => by simp at q), hE i _ 0 hi hmn (by decide), hE i _ 1 hi hmn (by decide)] at hn
        exact hn
  · refine gM_mono (gc_N_sendQ hi ha hK hK1 hM ⟨fun q => hk (Or.inl q), fun q => hk (Or.inr q)⟩) (fun v' S' q => ⟨q.1, ?_⟩)
    obtain ⟨-, rfl⟩ := q
    have et : mPick G.1 3 (qm (gI S (3, 0, 0) 3 v) i []) = mPk G.1 M i := by
      unfold mPk
      apply mPick_congr
      intro m hm
      show (if m ∈ [] then (0 : Int32) else (gI S (3, 0, 0) 3 v).1 (9, i, m) 4) = _
      rw [if_neg (by simp), gI1, if_neg (fun q => by simp at q), hE i m 4 hi hm (by decide)]
    have e : mSend G.1 M kind i to no o g = mPush (mSpend M i (mPk G.1 M i)) (mMsg kind (nI i) to no o g (mPk G.1 M i).length (mNews M i (mPk G.1 M i))) := by
      unfold mSend
      rw [if_neg hk]
    rw [e, et]
    have hnd : (mPk G.1 M i).Nodup := mPick_nd
    have ho := offMsg_q (S := S) (a := a) (i := i) (l := mPk G.1 M i) (v := v) (kind := kind) (s := nI i) (r := to) (no := no) (o := o) (g := g)
    refine h0.sent ho (fun k hk => ?_) hi (fun i' j f hi' hj hf => ?_) (hpost _ _ ho ?_ ?_)
    · funext f
      exact ho.2.1 k f (fun q => by omega) (fun q => by rw [q] at hk; simp at hk) (fun q => by omega) (fun q => by rw [q] at hk; simp at hk)
    · have hb : (sHdr (gI S (3, 0, 0) 3 v) a kind (nI i) to no o g).1 (9, i', j) f = M.1 f i' j := by
        rw [sHdr_o (by simp), gI1, if_neg (fun q => by simp at q)]
        exact hE i' j f hi' hj hf
      show _ = (if f = 4 ∧ i' = i ∧ j ∈ mPk G.1 M i then M.1 4 i j - 1 else M.1 f i' j)
      by_cases q : f = 4 ∧ i' = i
      · obtain ⟨rfl, rfl⟩ := q
        rw [sQ_s hnd, hb]
        by_cases q2 : j ∈ mPk G.1 M i'
        · rw [if_pos q2, if_pos ⟨rfl, rfl, q2⟩]
        · rw [if_neg q2, if_neg (fun z => q2 z.2.2)]
      · rw [if_neg (fun z => q ⟨z.1, z.2.1⟩), sQ_off (by simp) (fun z => by cases z) (fun _ => by
          by_cases q3 : f = 4
          · exact Or.inr (Or.inl (fun z => q ⟨q3, z⟩))
          · exact Or.inl q3), hb]
    · rw [sQ_off (by simp) (fun q => by cases q) (fun q => by simp at q), sHdr_o (by simp), gI1, if_pos ⟨rfl, rfl⟩]
    · refine isMsg_new (Nat.le_trans mPick_len (by decide)) (fun f hf => ?_) ?_ (fun t ht => ?_)
      · rw [sQ_off (by simp) (fun _ => by omega) (fun q => by simp at q), sHdr_f f hf]
      · rw [sQ_c (c := 0) sHdr_6, Nat.zero_add]
      · have hn := (sQ_n (a := a) (i := i) (l := mPk G.1 M i) (c := 0) (S := sHdr (gI S (3, 0, 0) 3 v) a kind (nI i) to no o g)).2 t ht
        rw [Nat.zero_add] at hn
        have hmn : (mPk G.1 M i).getD t 0 < G.1 := by
          have : (mPk G.1 M i).getD t 0 ∈ mPk G.1 M i := by rw [List.getD_eq_getElem?_getD, List.getElem?_eq_getElem ht]; exact List.getElem_mem ht
          exact (mPick_in this).1
        rw [sHdr_o (by simp), sHdr_o (by simp), gI1, if_neg (fun q => by simp at q), gI1, if_neg (fun q => by simp at q), hE i _ 0 hi hmn (by decide), hE i _ 1 hi hmn (by decide)] at hn
        exact hn
