def mCutB (M : mM) (a b : Nat) : Bool := decide (M.1 30 a b = 1)
def oStart (n : Nat) (M : mM) (a b : Int32) : Bool × mM :=
  if mIs n a = true ∧ mIs n b = true ∧ M.1 15 a.toNatClampNeg 0 = 0 then (true, if b = a then mBegin n M a.toNatClampNeg (M.1 31 0 0) else mSend n (mBegin n M a.toNatClampNeg (M.1 31 0 0)) 6 a.toNatClampNeg b 0 0 0) else (false, M)
def oCrash (n : Nat) (M : mM) (a : Int32) : Bool × mM := if mRun n M a = true then (true, mSet M 15 a.toNatClampNeg 0 0) else (false, M)
def oLeave (n : Nat) (M : mM) (a : Int32) : Bool × mM := if mRun n M a = true then (true, mSet (mFare n M a.toNatClampNeg (M.1 31 0 0)) 15 a.toNatClampNeg 0 0) else (false, M)
def oCut (n : Nat) (M : mM) (a b is : Int32) : Bool × mM :=
  if mIs n a = true ∧ mIs n b = true ∧ a ≠ b ∧ bI (mCutB M a.toNatClampNeg b.toNatClampNeg) ≠ is then (true, mSet (mSet M 30 a.toNatClampNeg b.toNatClampNeg is) 30 b.toNatClampNeg a.toNatClampNeg is) else (false, M)
def oMsg (M : mM) (k x : Int32) : Int32 := if mIs M.2.2.length k = true then mTellM (M.2.2.getD k.toNatClampNeg []) x else 0
def oView (n : Nat) (M : mM) (a b x : Int32) : Int32 := if mRun n M a = true then (if mIs n b = true then mTellE M a.toNatClampNeg b.toNatClampNeg x else 0) else -1
def oNode (n : Nat) (M : mM) (a x : Int32) : Int32 := if mIs n a = true ∧ ¬ x < 0 ∧ x ≤ 9 then (if M.1 15 a.toNatClampNeg 0 = 0 then 0 else mTellN n M a.toNatClampNeg x) else -1
def oQueued (n : Nat) (M : mM) (a b : Int32) : Int32 := if mRun n M a = true ∧ mIs n b = true then M.1 4 a.toNatClampNeg b.toNatClampNeg else 0
def mSee1 (M : mM) (i m : Nat) : Bool := if M.1 15 m 0 = 0 then decide (M.1 0 i m = 0 ∨ M.1 0 i m = 3) else decide (M.1 0 i m = 1 ∧ M.1 1 i m = M.1 1 m m)
def mSees (n : Nat) (M : mM) (i : Nat) : Bool := (List.range n).all (mSee1 M i)
def oAgreed (n : Nat) (M : mM) : Bool := (List.range n).all (fun i => decide (M.1 15 i 0 = 0) || mSees n M i)
theorem gc_G_isNode {G : gG} {la : Launch} {S : gS} {x : Int32} (hK : cK G S) : gM G la qy_G_isNode qw_G_isNode 0 0 0 (gTt G) (gTt G) [.inr (some (0, 0, 0)), .inl x] S (fun v S' => v = some (.inl (bI (mIs G.1 x))) ∧ S' = S) := by
  refine gM_of (cc := qc_G_isNode) (maxL := 2) (by decide) rfl (Nat.le_of_ble_eq_true rfl) ?_
  intro E cx hr hnm hcz hsz hEl
  subst hEl
  refine gz_iload_n (pc := 0) cx qd_G_isNode_0 rfl rfl ?_
  refine gz_if_lt (tgt := 16) (pc := 1) cx qd_G_isNode_1 (by decide) (fun h1 => ?_) (fun h1 => ?_)
  · refine gz_iconst (v := 0) (pc := 16) cx qd_G_isNode_16 (by decide) ?_
    refine gz_ireturn (pc := 17) cx hr (by decide) qd_G_isNode_17 ?_
    rw [mIs_f1 h1]
    exact ⟨rfl, rfl⟩
  · refine gz_iload_n (pc := 4) cx qd_G_isNode_4 rfl rfl ?_
    refine gz_aload_n (pc := 5) cx qd_G_isNode_5 rfl rfl ?_
    refine gz_getV (pc := 6) cx qf_G_18 qd_G_isNode_6 gm_G rfl rfl hK.2.2.2.2 ?_
    refine gz_icmp_ge (tgt := 16) (pc := 9) cx qd_G_isNode_9 (by decide) (fun h9 => ?_) (fun h9 => ?_)
    · refine gz_iconst (v := 0) (pc := 16) cx qd_G_isNode_16 (by decide) ?_
      refine gz_ireturn (pc := 17) cx hr (by decide) qd_G_isNode_17 ?_
      rw [mIs_f2 h9]
      exact ⟨rfl, rfl⟩
    · refine gz_iconst (v := 1) (pc := 12) cx qd_G_isNode_12 (by decide) ?_
      refine gz_goto (tgt := 17) (pc := 13) cx qd_G_isNode_13 (by decide) ?_
      refine gz_ireturn (pc := 17) cx hr (by decide) qd_G_isNode_17 ?_
      rw [mIs_t h1 h9]
      exact ⟨rfl, rfl⟩
theorem gc_G_isRunning {G : gG} {la : Launch} {M : mM} {p i0 : Nat} {kc : Option (Nat × List Int32)} {S : gS} {x : Int32} (h : CR G M p i0 kc S) : gM G la qy_G_isRunning qw_G_isRunning 1 0 0 (gTt G) (gTt G) [.inr (some (0, 0, 0)), .inl x] S (fun v S' => v = some (.inl (bI (mRun G.1 M x))) ∧ S' = S) := by
  refine gM_of (cc := qc_G_isRunning) (maxL := 2) (by decide) rfl (Nat.le_of_ble_eq_true rfl) ?_
  intro E cx hr hnm hcz hsz hEl
  subst hEl
  have h8 := h.1.2.1
  refine gz_aload_n (pc := 0) cx qd_G_isRunning_0 rfl rfl ?_
  refine gz_iload_n (pc := 1) cx qd_G_isRunning_1 rfl rfl ?_
  refine gz_callV (pc := 2) cx qv_G_45 qd_G_isRunning_2 (gc_G_isNode h.1) (by decide) rfl gm_G rfl rfl rfl rfl (Nat.le_of_ble_eq_true rfl) ⟨Nat.zero_le _, Nat.zero_le _⟩ ?_
  rintro _ S' ⟨rfl, hS'⟩
  subst hS'
  refine gz_if_eq (tgt := 24) (pc := 5) cx qd_G_isRunning_5 (by decide) (fun h5 => ?_) (fun h5 => ?_)
  · refine gz_iconst (v := 0) (pc := 24) cx qd_G_isRunning_24 (by decide) ?_
    refine gz_ireturn (pc := 25) cx hr (by decide) qd_G_isRunning_25 ?_
    unfold mRun
    rw [bB_f h5]
    exact ⟨rfl, rfl⟩
  · have hst := h.1.1
    obtain ⟨i, hi, rfl⟩ := (mIs_iff (by omega)).mp (bB_t h5)
    have e5 := h.2.2.1 i 5 hi (by decide) (by decide) (by decide)
    refine gz_aload_n (pc := 8) cx qd_G_isRunning_8 rfl rfl ?_
    refine gz_getR (pc := 9) cx qf_G_35 qd_G_isRunning_9 gm_G rfl rfl (hst _ _ _ rfl) ?_
    refine gz_iload_n (pc := 12) cx qd_G_isRunning_12 rfl rfl ?_
    refine gz_aaload (pc := 13) cx qd_G_isRunning_13 (by first | exact gm_tb (by assumption) | exact gm_ns | exact gm_cf | exact gm_w (by assumption) | exact gm_nw (by assumption) | exact gm_rs (by assumption) | exact gm_M (by assumption) | exact gm_R (by assumption) (by assumption) | exact gm_za (by decide) (by decide)) rfl ⟨by decide, by decide, rfl⟩ (hst _ _ _ rfl) rfl hi (by omega) ?_
    refine gz_getV (pc := 14) cx qf_G_49 qd_G_isRunning_14 (gm_N (by assumption)) rfl rfl e5 ?_
    refine gz_if_eq (tgt := 24) (pc := 17) cx qd_G_isRunning_17 (by decide) (fun h17 => ?_) (fun h17 => ?_)
    · refine gz_iconst (v := 0) (pc := 24) cx qd_G_isRunning_24 (by decide) ?_
      refine gz_ireturn (pc := 25) cx hr (by decide) qd_G_isRunning_25 ?_
      rw [mRun_nI hi (by omega), decide_eq_true (show M.1 15 i 0 = 0 from h17)]
      exact ⟨rfl, rfl⟩
    · refine gz_iconst (v := 1) (pc := 20) cx qd_G_isRunning_20 (by decide) ?_
      refine gz_goto (tgt := 25) (pc := 21) cx qd_G_isRunning_21 (by decide) ?_
      refine gz_ireturn (pc := 25) cx hr (by decide) qd_G_isRunning_25 ?_
      rw [mRun_nI hi (by omega), decide_eq_false (show ¬ M.1 15 i 0 = 0 from h17)]
      exact ⟨rfl, rfl⟩
theorem isMk_01 : ∀ y, y < 256 → ∀ m, m < 8 → ((nI y >>> (nI m &&& 31)) &&& 1 = 0 ∨ (nI y >>> (nI m &&& 31)) &&& 1 = 1) := by decide +kernel
theorem CR.cutB {G : gG} {M : mM} {p i0 : Nat} {kc : Option (Nat × List Int32)} {S : gS} (h : CR G M p i0 kc S) {a b : Nat} (ha : a < G.1) (hb : b < G.1) : decide ((S.1 (2, 0, 0) a >>> (nI b &&& 31)) &&& 1 = 1) = mCutB M a b := by
  have h8 := h.1.2.1
  obtain ⟨l, ⟨y, hy, e, hm⟩, h2⟩ := h.2.2.2.2.1.1 a ha
  unfold mCutB
  rw [decide_eq_decide, ← h2 b hb]
  have h01 := isMk_01 y hy b (by omega)
  rw [← e] at h01
  have := hm b (by omega)
  constructor
  · intro q
    exact Classical.byContradiction (fun z => absurd ((this.mpr z).symm.trans q) (by decide))
  · intro q
    exact h01.resolve_left (fun z => this.mp z q)
theorem gc_G_areCut {G : gG} {la : Launch} {M : mM} {p i0 : Nat} {kc : Option (Nat × List Int32)} {S : gS} {a b : Nat} (ha : a < G.1) (hb : b < G.1) (h : CR G M p i0 kc S) : gM G la qy_G_areCut qw_G_areCut 0 0 0 (gTt G) (gTt G) [.inr (some (0, 0, 0)), .inl (nI a), .inl (nI b)] S (fun v S' => v = some (.inl (bI (mCutB M a b))) ∧ S' = S) := by
  refine gM_of (cc := qc_G_areCut) (maxL := 3) (by decide) rfl (Nat.le_of_ble_eq_true rfl) ?_
  intro E cx hr hnm hcz hsz hEl
  subst hEl
  have h8 := h.1.2.1
  have hst := h.1.1
  rw [← h.cutB ha hb]
  refine gz_aload_n (pc := 0) cx qd_G_areCut_0 rfl rfl ?_
  refine gz_getR (pc := 1) cx qf_G_29 qd_G_areCut_1 gm_G rfl rfl (hst _ _ _ rfl) ?_
  refine gz_iload_n (pc := 4) cx qd_G_areCut_4 rfl rfl ?_
  refine gz_iaload (pc := 5) cx qd_G_areCut_5 (by first | exact gm_tb (by assumption) | exact gm_ns | exact gm_cf | exact gm_w (by assumption) | exact gm_nw (by assumption) | exact gm_rs (by assumption) | exact gm_M (by assumption) | exact gm_R (by assumption) (by assumption) | exact gm_za (by decide) (by decide)) rfl rfl ha (by omega) ?_
  refine gz_iload_n (pc := 6) cx qd_G_areCut_6 rfl rfl ?_
  refine gz_ishr (pc := 7) cx qd_G_areCut_7 ?_
  refine gz_iconst (v := 1) (pc := 8) cx qd_G_areCut_8 (by decide) ?_
  refine gz_iand (pc := 9) cx qd_G_areCut_9 ?_
  refine gz_iconst (v := 1) (pc := 10) cx qd_G_areCut_10 (by decide) ?_
  refine gz_icmp_ne (tgt := 18) (pc := 11) cx qd_G_areCut_11 (by decide) (fun h11 => ?_) (fun h11 => ?_)
  · refine gz_iconst (v := 0) (pc := 18) cx qd_G_areCut_18 (by decide) ?_
    refine gz_ireturn (pc := 19) cx hr (by decide) qd_G_areCut_19 ?_
    rw [decide_eq_false h11]
    exact ⟨rfl, rfl⟩
  · refine gz_iconst (v := 1) (pc := 14) cx qd_G_areCut_14 (by decide) ?_
    refine gz_goto (tgt := 19) (pc := 15) cx qd_G_areCut_15 (by decide) ?_
    refine gz_ireturn (pc := 19) cx hr (by decide) qd_G_areCut_19 ?_
    rw [decide_eq_true h11]
    exact ⟨rfl, rfl⟩
theorem gc_G_start {G : gG} {la : Launch} {M : mM} {S : gS} {x y : Int32} (h : CR G M 0 0 none S) : gM G la qy_G_start qw_G_start 3 0 0 (gTt G) (gTt G) [.inr (some (0, 0, 0)), .inl x, .inl y] S (fun v S' => v = some (.inl (bI (oStart G.1 M x y).1)) ∧ CR G (oStart G.1 M x y).2 0 0 none S' ∧ gFr S S') := by
  refine gM_of (cc := qc_G_start) (maxL := 3) (by decide) rfl (Nat.le_of_ble_eq_true rfl) ?_
  intro E cx hr hnm hcz hsz hEl
  subst hEl
  have h8 := h.1.2.1
  have hst := h.1.1
  have e4 := h.2.2.2.2.1.2
  refine gz_aload_n (pc := 0) cx qd_G_start_0 rfl rfl ?_
  refine gz_iload_n (pc := 1) cx qd_G_start_1 rfl rfl ?_
  refine gz_callV (pc := 2) cx qv_G_45 qd_G_start_2 (gc_G_isNode h.1) (by decide) rfl gm_G rfl rfl rfl rfl (Nat.le_of_ble_eq_true rfl) ⟨Nat.zero_le _, Nat.zero_le _⟩ ?_
  rintro _ S' ⟨rfl, hS'⟩
  subst hS'
  refine gz_if_eq (tgt := 28) (pc := 5) cx qd_G_start_5 (by decide) (fun h5 => ?_) (fun h5 => ?_)
  · refine gz_iconst (v := 0) (pc := 28) cx qd_G_start_28 (by decide) ?_
    refine gz_ireturn (pc := 29) cx hr (by decide) qd_G_start_29 ?_
    unfold oStart
    rw [if_neg (fun q => absurd q.1 (by rw [bB_f h5]; decide))]
    exact ⟨rfl, h, gFr.rf⟩
  · refine gz_aload_n (pc := 8) cx qd_G_start_8 rfl rfl ?_
    refine gz_iload_n (pc := 9) cx qd_G_start_9 rfl rfl ?_
    refine gz_callV (pc := 10) cx qv_G_45 qd_G_start_10 (gc_G_isNode h.1) (by decide) rfl gm_G rfl rfl rfl rfl (Nat.le_of_ble_eq_true rfl) ⟨Nat.zero_le _, Nat.zero_le _⟩ ?_
    rintro _ S' ⟨rfl, hS'⟩
    subst hS'
    refine gz_if_eq (tgt := 28) (pc := 13) cx qd_G_start_13 (by decide) (fun h13 => ?_) (fun h13 => ?_)
    · refine gz_iconst (v := 0) (pc := 28) cx qd_G_start_28 (by decide) ?_
      refine gz_ireturn (pc := 29) cx hr (by decide) qd_G_start_29 ?_
      unfold oStart
      rw [if_neg (fun q => absurd q.2.1 (by rw [bB_f h13]; decide))]
      exact ⟨rfl, h, gFr.rf⟩
    · obtain ⟨i, hi, rfl⟩ := (mIs_iff (by omega)).mp (bB_t h5)
      have e5 := h.2.2.1 i 5 hi (by decide) (by decide) (by decide)
      refine gz_aload_n (pc := 16) cx qd_G_start_16 rfl rfl ?_
      refine gz_getR (pc := 17) cx qf_G_35 qd_G_start_17 gm_G rfl rfl (hst _ _ _ rfl) ?_
      refine gz_iload_n (pc := 20) cx qd_G_start_20 rfl rfl ?_
      refine gz_aaload (pc := 21) cx qd_G_start_21 (by first | exact gm_tb (by assumption) | exact gm_ns | exact gm_cf | exact gm_w (by assumption) | exact gm_nw (by assumption) | exact gm_rs (by assumption) | exact gm_M (by assumption) | exact gm_R (by assumption) (by assumption) | exact gm_za (by decide) (by decide)) rfl ⟨by decide, by decide, rfl⟩ (hst _ _ _ rfl) rfl hi (by omega) ?_
      refine gz_getV (pc := 22) cx qf_G_49 qd_G_start_22 (gm_N (by assumption)) rfl rfl e5 ?_
      refine gz_if_eq (tgt := 30) (pc := 25) cx qd_G_start_25 (by decide) (fun h25 => ?_) (fun h25 => ?_)
      · refine gz_aload_n (pc := 30) cx qd_G_start_30 rfl rfl ?_
        refine gz_getR (pc := 31) cx qf_G_35 qd_G_start_31 gm_G rfl rfl (hst _ _ _ rfl) ?_
        refine gz_iload_n (pc := 34) cx qd_G_start_34 rfl rfl ?_
        refine gz_aaload (pc := 35) cx qd_G_start_35 (by first | exact gm_tb (by assumption) | exact gm_ns | exact gm_cf | exact gm_w (by assumption) | exact gm_nw (by assumption) | exact gm_rs (by assumption) | exact gm_M (by assumption) | exact gm_R (by assumption) (by assumption) | exact gm_za (by decide) (by decide)) rfl ⟨by decide, by decide, rfl⟩ (hst _ _ _ rfl) rfl hi (by omega) ?_
        refine gz_aload_n (pc := 36) cx qd_G_start_36 rfl rfl ?_
        refine gz_getV (pc := 37) cx qf_G_42 qd_G_start_37 gm_G rfl rfl e4 ?_
        refine gz_callV (pc := 40) cx qv_G_53 qd_G_start_40 (gc_N_begin hi h) (by decide) rfl (gm_N (by assumption)) rfl rfl rfl rfl (Nat.le_of_ble_eq_true rfl) ⟨Nat.zero_le _, Nat.zero_le _⟩ ?_
        rintro _ S1 ⟨rfl, c1, f1⟩
        have hst := c1.1.1
        refine gz_iload_n (pc := 43) cx qd_G_start_43 rfl rfl ?_
        refine gz_iload_n (pc := 44) cx qd_G_start_44 rfl rfl ?_
        refine gz_icmp_eq (tgt := 63) (pc := 45) cx qd_G_start_45 (by decide) (fun h45 => ?_) (fun h45 => ?_)
        · refine gz_iconst (v := 1) (pc := 63) cx qd_G_start_63 (by decide) ?_
          refine gz_ireturn (pc := 64) cx hr (by decide) qd_G_start_64 ?_
          unfold oStart
          rw [if_pos ⟨mIs_nI hi (by omega), bB_t h13, by rw [nI_clamp (by omega)]; exact h25⟩, nI_clamp (by omega)]
          refine ⟨rfl, ?_, f1⟩
          show CR G (if y = nI i then _ else _) _ _ _ _
          rw [if_pos h45]
          exact c1
        · refine gz_aload_n (pc := 48) cx qd_G_start_48 rfl rfl ?_
          refine gz_getR (pc := 49) cx qf_G_35 qd_G_start_49 gm_G rfl rfl (hst _ _ _ rfl) ?_
          refine gz_iload_n (pc := 52) cx qd_G_start_52 rfl rfl ?_
          refine gz_aaload (pc := 53) cx qd_G_start_53 (by first | exact gm_tb (by assumption) | exact gm_ns | exact gm_cf | exact gm_w (by assumption) | exact gm_nw (by assumption) | exact gm_rs (by assumption) | exact gm_M (by assumption) | exact gm_R (by assumption) (by assumption) | exact gm_za (by decide) (by decide)) rfl ⟨by decide, by decide, rfl⟩ (hst _ _ _ rfl) rfl hi (by omega) ?_
          refine gz_bipush (v := 6) (pc := 54) cx qd_G_start_54 (by decide) ?_
          refine gz_iload_n (pc := 56) cx qd_G_start_56 rfl rfl ?_
          refine gz_iconst (v := 0) (pc := 57) cx qd_G_start_57 (by decide) ?_
          refine gz_iconst (v := 0) (pc := 58) cx qd_G_start_58 (by decide) ?_
          refine gz_iconst (v := 0) (pc := 59) cx qd_G_start_59 (by decide) ?_
          refine gz_callV (pc := 60) cx qv_G_57 qd_G_start_60 (gc_send hi c1 (Or.inl rfl)) (by decide) rfl (gm_N (by assumption)) rfl rfl rfl rfl (Nat.le_of_ble_eq_true rfl) ⟨Nat.zero_le _, Nat.zero_le _⟩ ?_
          rintro _ S2 ⟨rfl, c2, f2⟩
          refine gz_iconst (v := 1) (pc := 63) cx qd_G_start_63 (by decide) ?_
          refine gz_ireturn (pc := 64) cx hr (by decide) qd_G_start_64 ?_
          unfold oStart
          rw [if_pos ⟨mIs_nI hi (by omega), bB_t h13, by rw [nI_clamp (by omega)]; exact h25⟩, nI_clamp (by omega)]
          refine ⟨rfl, ?_, f1.tr f2⟩
          show CR G (if y = nI i then _ else _) _ _ _ _
          rw [if_neg h45]
          exact c2
      · refine gz_iconst (v := 0) (pc := 28) cx qd_G_start_28 (by decide) ?_
        refine gz_ireturn (pc := 29) cx hr (by decide) qd_G_start_29 ?_
        unfold oStart
        rw [if_neg (fun q => h25 (by rw [nI_clamp (by omega)] at q; exact q.2.2))]
        exact ⟨rfl, h, gFr.rf⟩
theorem mRun_ex {n : Nat} {M : mM} {x : Int32} (hn : n < 2 ^ 31) (h : mRun n M x = true) : ∃ i, i < n ∧ x = nI i := by
  unfold mRun at h
  rw [Bool.and_eq_true] at h
  exact (mIs_iff hn).mp h.1
theorem gc_G_crash {G : gG} {la : Launch} {M : mM} {S : gS} {x : Int32} (h : CR G M 0 0 none S) : gM G la qy_G_crash qw_G_crash 2 0 0 (gTt G) (gTt G) [.inr (some (0, 0, 0)), .inl x] S (fun v S' => v = some (.inl (bI (oCrash G.1 M x).1)) ∧ CR G (oCrash G.1 M x).2 0 0 none S' ∧ gFr S S') := by
  refine gM_of (cc := qc_G_crash) (maxL := 2) (by decide) rfl (Nat.le_of_ble_eq_true rfl) ?_
  intro E cx hr hnm hcz hsz hEl
  subst hEl
  have h8 := h.1.2.1
  have hst := h.1.1
  refine gz_aload_n (pc := 0) cx qd_G_crash_0 rfl rfl ?_
  refine gz_iload_n (pc := 1) cx qd_G_crash_1 rfl rfl ?_
  refine gz_callV (pc := 2) cx qv_G_61 qd_G_crash_2 (gc_G_isRunning h) (by decide) rfl gm_G rfl rfl rfl rfl (Nat.le_of_ble_eq_true rfl) ⟨Nat.zero_le _, Nat.zero_le _⟩ ?_
  rintro _ S' ⟨rfl, hS'⟩
  subst hS'
  refine gz_if_ne (tgt := 10) (pc := 5) cx qd_G_crash_5 (by decide) (fun h5 => ?_) (fun h5 => ?_)
  · have hrun := bB_t h5
    obtain ⟨i, hi, rfl⟩ := mRun_ex (by omega) hrun
    refine gz_aload_n (pc := 10) cx qd_G_crash_10 rfl rfl ?_
    refine gz_getR (pc := 11) cx qf_G_35 qd_G_crash_11 gm_G rfl rfl (hst _ _ _ rfl) ?_
    refine gz_iload_n (pc := 14) cx qd_G_crash_14 rfl rfl ?_
    refine gz_aaload (pc := 15) cx qd_G_crash_15 (by first | exact gm_tb (by assumption) | exact gm_ns | exact gm_cf | exact gm_w (by assumption) | exact gm_nw (by assumption) | exact gm_rs (by assumption) | exact gm_M (by assumption) | exact gm_R (by assumption) (by assumption) | exact gm_za (by decide) (by decide)) rfl ⟨by decide, by decide, rfl⟩ (hst _ _ _ rfl) rfl hi (by omega) ?_
    refine gz_iconst (v := 0) (pc := 16) cx qd_G_crash_16 (by decide) ?_
    refine gz_putI (pc := 17) cx qp_G_49 qd_G_crash_17 (gm_N (by assumption)) rfl rfl ⟨by decide, by decide⟩ (fun h => nomatch h) ?_
    refine gz_iconst (v := 1) (pc := 20) cx qd_G_crash_20 (by decide) ?_
    refine gz_ireturn (pc := 21) cx hr (by decide) qd_G_crash_21 ?_
    obtain ⟨c1, f1⟩ := h.N (i := i) (f := 5) (by decide) (by decide) (by decide) 0
    unfold oCrash
    rw [if_pos hrun, nI_clamp (by omega)]
    exact ⟨rfl, c1, f1⟩
  · refine gz_iconst (v := 0) (pc := 8) cx qd_G_crash_8 (by decide) ?_
    refine gz_ireturn (pc := 9) cx hr (by decide) qd_G_crash_9 ?_
    unfold oCrash
    rw [if_neg (by rw [bB_f h5]; decide)]
    exact ⟨rfl, h, gFr.rf⟩
theorem gc_G_leave {G : gG} {la : Launch} {M : mM} {S : gS} {x : Int32} (h : CR G M 0 0 none S) : gM G la qy_G_leave qw_G_leave 4 0 0 (gTt G) (gTt G) [.inr (some (0, 0, 0)), .inl x] S (fun v S' => v = some (.inl (bI (oLeave G.1 M x).1)) ∧ CR G (oLeave G.1 M x).2 0 0 none S' ∧ gFr S S') := by
  refine gM_of (cc := qc_G_leave) (maxL := 2) (by decide) rfl (Nat.le_of_ble_eq_true rfl) ?_
  intro E cx hr hnm hcz hsz hEl
  subst hEl
  have h8 := h.1.2.1
  have hst := h.1.1
  have e4 := h.2.2.2.2.1.2
  refine gz_aload_n (pc := 0) cx qd_G_leave_0 rfl rfl ?_
  refine gz_iload_n (pc := 1) cx qd_G_leave_1 rfl rfl ?_
  refine gz_callV (pc := 2) cx qv_G_61 qd_G_leave_2 (gc_G_isRunning h) (by decide) rfl gm_G rfl rfl rfl rfl (Nat.le_of_ble_eq_true rfl) ⟨Nat.zero_le _, Nat.zero_le _⟩ ?_
  rintro _ S' ⟨rfl, hS'⟩
  subst hS'
  refine gz_if_ne (tgt := 10) (pc := 5) cx qd_G_leave_5 (by decide) (fun h5 => ?_) (fun h5 => ?_)
  · have hrun := bB_t h5
    obtain ⟨i, hi, rfl⟩ := mRun_ex (by omega) hrun
    refine gz_aload_n (pc := 10) cx qd_G_leave_10 rfl rfl ?_
    refine gz_getR (pc := 11) cx qf_G_35 qd_G_leave_11 gm_G rfl rfl (hst _ _ _ rfl) ?_
    refine gz_iload_n (pc := 14) cx qd_G_leave_14 rfl rfl ?_
    refine gz_aaload (pc := 15) cx qd_G_leave_15 (by first | exact gm_tb (by assumption) | exact gm_ns | exact gm_cf | exact gm_w (by assumption) | exact gm_nw (by assumption) | exact gm_rs (by assumption) | exact gm_M (by assumption) | exact gm_R (by assumption) (by assumption) | exact gm_za (by decide) (by decide)) rfl ⟨by decide, by decide, rfl⟩ (hst _ _ _ rfl) rfl hi (by omega) ?_
    refine gz_aload_n (pc := 16) cx qd_G_leave_16 rfl rfl ?_
    refine gz_getV (pc := 17) cx qf_G_42 qd_G_leave_17 gm_G rfl rfl e4 ?_
    refine gz_callV (pc := 20) cx qv_G_64 qd_G_leave_20 (gc_N_sayFarewell hi h) (by decide) rfl (gm_N (by assumption)) rfl rfl rfl rfl (Nat.le_of_ble_eq_true rfl) ⟨Nat.zero_le _, Nat.zero_le _⟩ ?_
    rintro _ S1 ⟨rfl, c1, f1⟩
    have hst := c1.1.1
    refine gz_aload_n (pc := 23) cx qd_G_leave_23 rfl rfl ?_
    refine gz_getR (pc := 24) cx qf_G_35 qd_G_leave_24 gm_G rfl rfl (hst _ _ _ rfl) ?_
    refine gz_iload_n (pc := 27) cx qd_G_leave_27 rfl rfl ?_
    refine gz_aaload (pc := 28) cx qd_G_leave_28 (by first | exact gm_tb (by assumption) | exact gm_ns | exact gm_cf | exact gm_w (by assumption) | exact gm_nw (by assumption) | exact gm_rs (by assumption) | exact gm_M (by assumption) | exact gm_R (by assumption) (by assumption) | exact gm_za (by decide) (by decide)) rfl ⟨by decide, by decide, rfl⟩ (hst _ _ _ rfl) rfl hi (by omega) ?_
    refine gz_iconst (v := 0) (pc := 29) cx qd_G_leave_29 (by decide) ?_
    refine gz_putI (pc := 30) cx qp_G_49 qd_G_leave_30 (gm_N (by assumption)) rfl rfl ⟨by decide, by decide⟩ (fun h => nomatch h) ?_
    refine gz_iconst (v := 1) (pc := 33) cx qd_G_leave_33 (by decide) ?_
    refine gz_ireturn (pc := 34) cx hr (by decide) qd_G_leave_34 ?_
    obtain ⟨c2, f2⟩ := c1.N (i := i) (f := 5) (by decide) (by decide) (by decide) 0
    unfold oLeave
    rw [if_pos hrun, nI_clamp (by omega)]
    exact ⟨rfl, c2, f1.tr f2⟩
  · refine gz_iconst (v := 0) (pc := 8) cx qd_G_leave_8 (by decide) ?_
    refine gz_ireturn (pc := 9) cx hr (by decide) qd_G_leave_9 ?_
    unfold oLeave
    rw [if_neg (by rw [bB_f h5]; decide)]
    exact ⟨rfl, h, gFr.rf⟩
theorem gc_G_drop {G : gG} {la : Launch} {M : mM} {S : gS} {x : Int32} (h : CR G M 0 0 none S) : gM G la qy_G_drop qw_G_drop 1 0 0 (gTt G) (gTt G) [.inr (some (0, 0, 0)), .inl x] S (fun v S' => v = some (.inl (bI (mIs M.2.2.length x))) ∧ CR G (oDrop M x) 0 0 none S' ∧ gFr S S') := by
  refine gM_of (cc := qc_G_drop) (maxL := 2) (by decide) rfl (Nat.le_of_ble_eq_true rfl) ?_
  intro E cx hr hnm hcz hsz hEl
  subst hEl
  have hst := h.1.1
  refine gz_aload_n (pc := 0) cx qd_G_drop_0 rfl rfl ?_
  refine gz_getR (pc := 1) cx qf_G_25 qd_G_drop_1 gm_G rfl rfl (hst _ _ _ rfl) ?_
  refine gz_iload_n (pc := 4) cx qd_G_drop_4 rfl rfl ?_
  refine gz_callV (pc := 5) cx qv_G_71 qd_G_drop_5 (gc_F_lose h) (by decide) rfl gm_F rfl rfl rfl rfl (Nat.le_of_ble_eq_true rfl) ⟨Nat.zero_le _, Nat.zero_le _⟩ ?_
  rintro _ S1 ⟨rfl, c1, f1⟩
  refine gz_ireturn (pc := 8) cx hr bI_z qd_G_drop_8 ?_
  exact ⟨rfl, c1, f1⟩
theorem gc_G_swap {G : gG} {la : Launch} {M : mM} {S : gS} {x : Int32} (h : CR G M 0 0 none S) : gM G la qy_G_swap qw_G_swap 1 0 0 (gTt G) (gTt G) [.inr (some (0, 0, 0)), .inl x] S (fun v S' => v = some (.inl (bI (mIs (M.2.2.length - 1) x))) ∧ CR G (oSwap M x) 0 0 none S' ∧ gFr S S') := by
  refine gM_of (cc := qc_G_swap) (maxL := 2) (by decide) rfl (Nat.le_of_ble_eq_true rfl) ?_
  intro E cx hr hnm hcz hsz hEl
  subst hEl
  have hst := h.1.1
  refine gz_aload_n (pc := 0) cx qd_G_swap_0 rfl rfl ?_
  refine gz_getR (pc := 1) cx qf_G_25 qd_G_swap_1 gm_G rfl rfl (hst _ _ _ rfl) ?_
  refine gz_iload_n (pc := 4) cx qd_G_swap_4 rfl rfl ?_
  refine gz_callV (pc := 5) cx qv_G_74 qd_G_swap_5 (gc_F_overtake h) (by decide) rfl gm_F rfl rfl rfl rfl (Nat.le_of_ble_eq_true rfl) ⟨Nat.zero_le _, Nat.zero_le _⟩ ?_
  rintro _ S1 ⟨rfl, c1, f1⟩
  refine gz_ireturn (pc := 8) cx hr bI_z qd_G_swap_8 ?_
  exact ⟨rfl, c1, f1⟩
theorem gc_G_now {G : gG} {la : Launch} {M : mM} {p i0 : Nat} {kc : Option (Nat × List Int32)} {S : gS} (h : CR G M p i0 kc S) : gM G la qy_G_now qw_G_now 0 0 0 (gTt G) (gTt G) [.inr (some (0, 0, 0))] S (fun v S' => v = some (.inl (M.1 31 0 0)) ∧ S' = S) := by
  refine gM_of (cc := qc_G_now) (maxL := 1) (by decide) rfl (Nat.le_of_ble_eq_true rfl) ?_
  intro E cx hr hnm hcz hsz hEl
  subst hEl
  refine gz_aload_n (pc := 0) cx qd_G_now_0 rfl rfl ?_
  refine gz_getV (pc := 1) cx qf_G_42 qd_G_now_1 gm_G rfl rfl h.2.2.2.2.1.2 ?_
  refine gz_ireturn (pc := 4) cx hr rfl qd_G_now_4 ?_
  exact ⟨rfl, rfl⟩
theorem gc_G_flight {G : gG} {la : Launch} {M : mM} {S : gS} (h : CR G M 0 0 none S) : gM G la qy_G_flight qw_G_flight 0 0 0 (gTt G) (gTt G) [.inr (some (0, 0, 0))] S (fun v S' => v = some (.inl (nI M.2.2.length)) ∧ S' = S) := by
  refine gM_of (cc := qc_G_flight) (maxL := 1) (by decide) rfl (Nat.le_of_ble_eq_true rfl) ?_
  intro E cx hr hnm hcz hsz hEl
  subst hEl
  have hst := h.1.1
  obtain ⟨b, σ, hb, a1, a2, a3, a4, a5, a6, a7, a8, a9, a10, a11⟩ := h.2.2.2.2.2
  rw [Nat.sub_zero] at a6 a7
  refine gz_aload_n (pc := 0) cx qd_G_flight_0 rfl rfl ?_
  refine gz_getR (pc := 1) cx qf_G_25 qd_G_flight_1 gm_G rfl rfl (hst _ _ _ rfl) ?_
  refine gz_getV (pc := 4) cx qf_G_84 qd_G_flight_4 gm_F rfl rfl a7 ?_
  refine gz_ireturn (pc := 7) cx hr rfl qd_G_flight_7 ?_
  exact ⟨rfl, rfl⟩
theorem gc_G_message {G : gG} {la : Launch} {M : mM} {S : gS} {x y : Int32} (h : CR G M 0 0 none S) : gM G la qy_G_message qw_G_message 2 0 0 (gTt G) (gTt G) [.inr (some (0, 0, 0)), .inl x, .inl y] S (fun v S' => v = some (.inl (oMsg M x y)) ∧ S' = S) := by
  refine gM_of (cc := qc_G_message) (maxL := 3) (by decide) rfl (Nat.le_of_ble_eq_true rfl) ?_
  intro E cx hr hnm hcz hsz hEl
  subst hEl
  have hst := h.1.1
  obtain ⟨b, σ, hb, a1, a2, a3, a4, a5, a6, a7, a8, a9, a10, a11⟩ := h.2.2.2.2.2
  rw [Nat.sub_zero] at a6 a7
  refine gz_iload_n (pc := 0) cx qd_G_message_0 rfl rfl ?_
  refine gz_if_lt (tgt := 15) (pc := 1) cx qd_G_message_1 (by decide) (fun h1 => ?_) (fun h1 => ?_)
  · refine gz_iconst (v := 0) (pc := 15) cx qd_G_message_15 (by decide) ?_
    refine gz_ireturn (pc := 16) cx hr rfl qd_G_message_16 ?_
    unfold oMsg
    rw [mIs_f1 h1]
    exact ⟨rfl, rfl⟩
  · refine gz_iload_n (pc := 4) cx qd_G_message_4 rfl rfl ?_
    refine gz_aload_n (pc := 5) cx qd_G_message_5 rfl rfl ?_
    refine gz_getR (pc := 6) cx qf_G_25 qd_G_message_6 gm_G rfl rfl (hst _ _ _ rfl) ?_
    refine gz_getV (pc := 9) cx qf_G_84 qd_G_message_9 gm_F rfl rfl a7 ?_
    refine gz_icmp_lt (tgt := 17) (pc := 12) cx qd_G_message_12 (by decide) (fun h12 => ?_) (fun h12 => ?_)
    · obtain ⟨k, hk, rfl⟩ := (mIs_iff (by omega)).mp (mIs_t h1 (Int32.not_le.mpr h12))
      have hms := a8 k (by omega)
      rw [Nat.zero_add] at hms
      refine gz_aload_n (pc := 17) cx qd_G_message_17 rfl rfl ?_
      refine gz_getR (pc := 18) cx qf_G_25 qd_G_message_18 gm_G rfl rfl (hst _ _ _ rfl) ?_
      refine gz_getR (pc := 21) cx qf_G_87 qd_G_message_21 gm_F rfl rfl a1 ?_
      refine gz_iload_n (pc := 24) cx qd_G_message_24 rfl rfl ?_
      refine gz_aaload (pc := 25) cx qd_G_message_25 (by first | exact gm_tb (by assumption) | exact gm_ns | exact gm_cf | exact gm_w (by assumption) | exact gm_nw (by assumption) | exact gm_rs (by assumption) | exact gm_M (by assumption) | exact gm_R (by assumption) (by assumption) | exact gm_za (by decide) (by decide)) rfl ⟨by decide, by decide, rfl⟩ (a3 b k hb (by omega)).1 rfl (by omega) (by decide) ?_
      refine gz_iload_n (pc := 26) cx qd_G_message_26 rfl rfl ?_
      refine gz_callV (pc := 27) cx qv_G_91 qd_G_message_27 (gc_M_tell (show σ b k < 121 by have := (a3 b k hb (by omega)).2; omega) hst hms) (by decide) rfl (gm_M (show σ b k < 121 by have := (a3 b k hb (by omega)).2; omega)) rfl rfl rfl rfl (Nat.le_of_ble_eq_true rfl) ⟨Nat.zero_le _, Nat.zero_le _⟩ ?_
      rintro _ S' ⟨rfl, hS'⟩
      subst hS'
      refine gz_ireturn (pc := 30) cx hr rfl qd_G_message_30 ?_
      unfold oMsg
      rw [if_pos (mIs_nI hk (by omega)), nI_clamp (by omega)]
      exact ⟨rfl, rfl⟩
    · refine gz_iconst (v := 0) (pc := 15) cx qd_G_message_15 (by decide) ?_
      refine gz_ireturn (pc := 16) cx hr rfl qd_G_message_16 ?_
      unfold oMsg
      rw [mIs_f2 (Int32.not_lt.mp h12)]
      exact ⟨rfl, rfl⟩
theorem gc_G_view {G : gG} {la : Launch} {M : mM} {p i0 : Nat} {kc : Option (Nat × List Int32)} {S : gS} {x y z : Int32} (h : CR G M p i0 kc S) : gM G la qy_G_view qw_G_view 2 0 0 (gTt G) (gTt G) [.inr (some (0, 0, 0)), .inl x, .inl y, .inl z] S (fun v S' => v = some (.inl (oView G.1 M x y z)) ∧ S' = S) := by
  refine gM_of (cc := qc_G_view) (maxL := 4) (by decide) rfl (Nat.le_of_ble_eq_true rfl) ?_
  intro E cx hr hnm hcz hsz hEl
  subst hEl
  have h8 := h.1.2.1
  have hst := h.1.1
  refine gz_aload_n (pc := 0) cx qd_G_view_0 rfl rfl ?_
  refine gz_iload_n (pc := 1) cx qd_G_view_1 rfl rfl ?_
  refine gz_callV (pc := 2) cx qv_G_61 qd_G_view_2 (gc_G_isRunning h) (by decide) rfl gm_G rfl rfl rfl rfl (Nat.le_of_ble_eq_true rfl) ⟨Nat.zero_le _, Nat.zero_le _⟩ ?_
  rintro _ S' ⟨rfl, hS'⟩
  subst hS'
  refine gz_if_ne (tgt := 10) (pc := 5) cx qd_G_view_5 (by decide) (fun h5 => ?_) (fun h5 => ?_)
  · have hrun := bB_t h5
    obtain ⟨i, hi, rfl⟩ := mRun_ex (by omega) hrun
    refine gz_aload_n (pc := 10) cx qd_G_view_10 rfl rfl ?_
    refine gz_iload_n (pc := 11) cx qd_G_view_11 rfl rfl ?_
    refine gz_callV (pc := 12) cx qv_G_45 qd_G_view_12 (gc_G_isNode h.1) (by decide) rfl gm_G rfl rfl rfl rfl (Nat.le_of_ble_eq_true rfl) ⟨Nat.zero_le _, Nat.zero_le _⟩ ?_
    rintro _ S' ⟨rfl, hS'⟩
    subst hS'
    refine gz_if_eq (tgt := 36) (pc := 15) cx qd_G_view_15 (by decide) (fun h15 => ?_) (fun h15 => ?_)
    · refine gz_iconst (v := 0) (pc := 36) cx qd_G_view_36 (by decide) ?_
      refine gz_ireturn (pc := 37) cx hr rfl qd_G_view_37 ?_
      unfold oView
      rw [if_pos hrun, bB_f h15]
      exact ⟨rfl, rfl⟩
    · obtain ⟨j, hj, rfl⟩ := (mIs_iff (by omega)).mp (bB_t h15)
      refine gz_aload_n (pc := 18) cx qd_G_view_18 rfl rfl ?_
      refine gz_getR (pc := 19) cx qf_G_35 qd_G_view_19 gm_G rfl rfl (hst _ _ _ rfl) ?_
      refine gz_iload_n (pc := 22) cx qd_G_view_22 rfl rfl ?_
      refine gz_aaload (pc := 23) cx qd_G_view_23 (by first | exact gm_tb (by assumption) | exact gm_ns | exact gm_cf | exact gm_w (by assumption) | exact gm_nw (by assumption) | exact gm_rs (by assumption) | exact gm_M (by assumption) | exact gm_R (by assumption) (by assumption) | exact gm_za (by decide) (by decide)) rfl ⟨by decide, by decide, rfl⟩ (hst _ _ _ rfl) rfl hi (by omega) ?_
      refine gz_getR (pc := 24) cx qf_G_97 qd_G_view_24 (gm_N (by assumption)) rfl rfl (hst _ _ _ rfl) ?_
      refine gz_iload_n (pc := 27) cx qd_G_view_27 rfl rfl ?_
      refine gz_aaload (pc := 28) cx qd_G_view_28 (by first | exact gm_tb (by assumption) | exact gm_ns | exact gm_cf | exact gm_w (by assumption) | exact gm_nw (by assumption) | exact gm_rs (by assumption) | exact gm_M (by assumption) | exact gm_R (by assumption) (by assumption) | exact gm_za (by decide) (by decide)) rfl ⟨by decide, by decide, rfl⟩ (hst _ _ _ rfl) rfl hj (by omega) ?_
      refine gz_iload_n (pc := 29) cx qd_G_view_29 rfl rfl ?_
      refine gz_callV (pc := 30) cx qv_G_101 qd_G_view_30 (gc_E_tell hi hj) (by decide) rfl (gm_E (by assumption) (by assumption)) rfl rfl rfl rfl (Nat.le_of_ble_eq_true rfl) ⟨Nat.zero_le _, Nat.zero_le _⟩ ?_
      rintro _ S' ⟨rfl, hS'⟩
      subst hS'
      refine gz_goto (tgt := 37) (pc := 33) cx qd_G_view_33 (by decide) ?_
      refine gz_ireturn (pc := 37) cx hr rfl qd_G_view_37 ?_
      unfold oView
      rw [if_pos hrun, if_pos (mIs_nI hj (by omega)), nI_clamp (by omega), nI_clamp (by omega)]
      refine ⟨?_, rfl⟩
      unfold sTellE mTellE
      rw [h.2.1 i j 0 hi hj (by decide), h.2.1 i j 1 hi hj (by decide), h.2.1 i j 2 hi hj (by decide), h.2.1 i j 3 hi hj (by decide)]
  · refine gz_iconst (v := -1) (pc := 8) cx qd_G_view_8 (by decide) ?_
    refine gz_ireturn (pc := 9) cx hr rfl qd_G_view_9 ?_
    unfold oView
    rw [bB_f h5]
    exact ⟨rfl, rfl⟩
theorem gc_G_node {G : gG} {la : Launch} {M : mM} {p i0 : Nat} {kc : Option (Nat × List Int32)} {S : gS} {x y : Int32} (h : CR G M p i0 kc S) : gM G la qy_G_node qw_G_node 2 0 0 (gTt G) (gTt G) [.inr (some (0, 0, 0)), .inl x, .inl y] S (fun v S' => v = some (.inl (oNode G.1 M x y)) ∧ S' = S) := by
  refine gM_of (cc := qc_G_node) (maxL := 3) (by decide) rfl (Nat.le_of_ble_eq_true rfl) ?_
  intro E cx hr hnm hcz hsz hEl
  subst hEl
  have h8 := h.1.2.1
  have hst := h.1.1
  refine gz_aload_n (pc := 0) cx qd_G_node_0 rfl rfl ?_
  refine gz_iload_n (pc := 1) cx qd_G_node_1 rfl rfl ?_
  refine gz_callV (pc := 2) cx qv_G_45 qd_G_node_2 (gc_G_isNode h.1) (by decide) rfl gm_G rfl rfl rfl rfl (Nat.le_of_ble_eq_true rfl) ⟨Nat.zero_le _, Nat.zero_le _⟩ ?_
  rintro _ S' ⟨rfl, hS'⟩
  subst hS'
  refine gz_if_eq (tgt := 18) (pc := 5) cx qd_G_node_5 (by decide) (fun h5 => ?_) (fun h5 => ?_)
  · refine gz_iconst (v := -1) (pc := 18) cx qd_G_node_18 (by decide) ?_
    refine gz_ireturn (pc := 19) cx hr rfl qd_G_node_19 ?_
    unfold oNode
    rw [if_neg (fun q => absurd q.1 (by rw [bB_f h5]; decide))]
    exact ⟨rfl, rfl⟩
  · refine gz_iload_n (pc := 8) cx qd_G_node_8 rfl rfl ?_
    refine gz_if_lt (tgt := 18) (pc := 9) cx qd_G_node_9 (by decide) (fun h9 => ?_) (fun h9 => ?_)
    · refine gz_iconst (v := -1) (pc := 18) cx qd_G_node_18 (by decide) ?_
      refine gz_ireturn (pc := 19) cx hr rfl qd_G_node_19 ?_
      unfold oNode
      rw [if_neg (fun q => q.2.1 h9)]
      exact ⟨rfl, rfl⟩
    · refine gz_iload_n (pc := 12) cx qd_G_node_12 rfl rfl ?_
      refine gz_bipush (v := 9) (pc := 13) cx qd_G_node_13 (by decide) ?_
      refine gz_icmp_le (tgt := 20) (pc := 15) cx qd_G_node_15 (by decide) (fun h15 => ?_) (fun h15 => ?_)
      · obtain ⟨i, hi, rfl⟩ := (mIs_iff (by omega)).mp (bB_t h5)
        have e5 := h.2.2.1 i 5 hi (by decide) (by decide) (by decide)
        refine gz_aload_n (pc := 20) cx qd_G_node_20 rfl rfl ?_
        refine gz_getR (pc := 21) cx qf_G_35 qd_G_node_21 gm_G rfl rfl (hst _ _ _ rfl) ?_
        refine gz_iload_n (pc := 24) cx qd_G_node_24 rfl rfl ?_
        refine gz_aaload (pc := 25) cx qd_G_node_25 (by first | exact gm_tb (by assumption) | exact gm_ns | exact gm_cf | exact gm_w (by assumption) | exact gm_nw (by assumption) | exact gm_rs (by assumption) | exact gm_M (by assumption) | exact gm_R (by assumption) (by assumption) | exact gm_za (by decide) (by decide)) rfl ⟨by decide, by decide, rfl⟩ (hst _ _ _ rfl) rfl hi (by omega) ?_
        refine gz_getV (pc := 26) cx qf_G_49 qd_G_node_26 (gm_N (by assumption)) rfl rfl e5 ?_
        refine gz_if_eq (tgt := 45) (pc := 29) cx qd_G_node_29 (by decide) (fun h29 => ?_) (fun h29 => ?_)
        · refine gz_iconst (v := 0) (pc := 45) cx qd_G_node_45 (by decide) ?_
          refine gz_ireturn (pc := 46) cx hr rfl qd_G_node_46 ?_
          unfold oNode
          rw [if_pos ⟨mIs_nI hi (by omega), h9, h15⟩, nI_clamp (by omega), if_pos h29]
          exact ⟨rfl, rfl⟩
        · refine gz_aload_n (pc := 32) cx qd_G_node_32 rfl rfl ?_
          refine gz_getR (pc := 33) cx qf_G_35 qd_G_node_33 gm_G rfl rfl (hst _ _ _ rfl) ?_
          refine gz_iload_n (pc := 36) cx qd_G_node_36 rfl rfl ?_
          refine gz_aaload (pc := 37) cx qd_G_node_37 (by first | exact gm_tb (by assumption) | exact gm_ns | exact gm_cf | exact gm_w (by assumption) | exact gm_nw (by assumption) | exact gm_rs (by assumption) | exact gm_M (by assumption) | exact gm_R (by assumption) (by assumption) | exact gm_za (by decide) (by decide)) rfl ⟨by decide, by decide, rfl⟩ (hst _ _ _ rfl) rfl hi (by omega) ?_
          refine gz_iload_n (pc := 38) cx qd_G_node_38 rfl rfl ?_
          refine gz_callV (pc := 39) cx qv_G_104 qd_G_node_39 (gc_N_tell hi h) (by decide) rfl (gm_N (by assumption)) rfl rfl rfl rfl (Nat.le_of_ble_eq_true rfl) ⟨Nat.zero_le _, Nat.zero_le _⟩ ?_
          rintro _ S' ⟨rfl, hS'⟩
          subst hS'
          refine gz_goto (tgt := 46) (pc := 42) cx qd_G_node_42 (by decide) ?_
          refine gz_ireturn (pc := 46) cx hr rfl qd_G_node_46 ?_
          unfold oNode
          rw [if_pos ⟨mIs_nI hi (by omega), h9, h15⟩, nI_clamp (by omega), if_neg h29]
          exact ⟨rfl, rfl⟩
      · refine gz_iconst (v := -1) (pc := 18) cx qd_G_node_18 (by decide) ?_
        refine gz_ireturn (pc := 19) cx hr rfl qd_G_node_19 ?_
        unfold oNode
        rw [if_neg (fun q => h15 q.2.2)]
        exact ⟨rfl, rfl⟩
theorem gc_G_queued {G : gG} {la : Launch} {M : mM} {p i0 : Nat} {kc : Option (Nat × List Int32)} {S : gS} {x y : Int32} (h : CR G M p i0 kc S) : gM G la qy_G_queued qw_G_queued 2 0 0 (gTt G) (gTt G) [.inr (some (0, 0, 0)), .inl x, .inl y] S (fun v S' => v = some (.inl (oQueued G.1 M x y)) ∧ S' = S) := by
  refine gM_of (cc := qc_G_queued) (maxL := 3) (by decide) rfl (Nat.le_of_ble_eq_true rfl) ?_
  intro E cx hr hnm hcz hsz hEl
  subst hEl
  have h8 := h.1.2.1
  have hst := h.1.1
  refine gz_aload_n (pc := 0) cx qd_G_queued_0 rfl rfl ?_
  refine gz_iload_n (pc := 1) cx qd_G_queued_1 rfl rfl ?_
  refine gz_callV (pc := 2) cx qv_G_61 qd_G_queued_2 (gc_G_isRunning h) (by decide) rfl gm_G rfl rfl rfl rfl (Nat.le_of_ble_eq_true rfl) ⟨Nat.zero_le _, Nat.zero_le _⟩ ?_
  rintro _ S' ⟨rfl, hS'⟩
  subst hS'
  refine gz_if_eq (tgt := 33) (pc := 5) cx qd_G_queued_5 (by decide) (fun h5 => ?_) (fun h5 => ?_)
  · refine gz_iconst (v := 0) (pc := 33) cx qd_G_queued_33 (by decide) ?_
    refine gz_ireturn (pc := 34) cx hr rfl qd_G_queued_34 ?_
    unfold oQueued
    rw [if_neg (fun q => absurd q.1 (by rw [bB_f h5]; decide))]
    exact ⟨rfl, rfl⟩
  · have hrun := bB_t h5
    obtain ⟨i, hi, rfl⟩ := mRun_ex (by omega) hrun
    refine gz_aload_n (pc := 8) cx qd_G_queued_8 rfl rfl ?_
    refine gz_iload_n (pc := 9) cx qd_G_queued_9 rfl rfl ?_
    refine gz_callV (pc := 10) cx qv_G_45 qd_G_queued_10 (gc_G_isNode h.1) (by decide) rfl gm_G rfl rfl rfl rfl (Nat.le_of_ble_eq_true rfl) ⟨Nat.zero_le _, Nat.zero_le _⟩ ?_
    rintro _ S' ⟨rfl, hS'⟩
    subst hS'
    refine gz_if_eq (tgt := 33) (pc := 13) cx qd_G_queued_13 (by decide) (fun h13 => ?_) (fun h13 => ?_)
    · refine gz_iconst (v := 0) (pc := 33) cx qd_G_queued_33 (by decide) ?_
      refine gz_ireturn (pc := 34) cx hr rfl qd_G_queued_34 ?_
      unfold oQueued
      rw [if_neg (fun q => absurd q.2 (by rw [bB_f h13]; decide))]
      exact ⟨rfl, rfl⟩
    · obtain ⟨j, hj, rfl⟩ := (mIs_iff (by omega)).mp (bB_t h13)
      refine gz_aload_n (pc := 16) cx qd_G_queued_16 rfl rfl ?_
      refine gz_getR (pc := 17) cx qf_G_35 qd_G_queued_17 gm_G rfl rfl (hst _ _ _ rfl) ?_
      refine gz_iload_n (pc := 20) cx qd_G_queued_20 rfl rfl ?_
      refine gz_aaload (pc := 21) cx qd_G_queued_21 (by first | exact gm_tb (by assumption) | exact gm_ns | exact gm_cf | exact gm_w (by assumption) | exact gm_nw (by assumption) | exact gm_rs (by assumption) | exact gm_M (by assumption) | exact gm_R (by assumption) (by assumption) | exact gm_za (by decide) (by decide)) rfl ⟨by decide, by decide, rfl⟩ (hst _ _ _ rfl) rfl hi (by omega) ?_
      refine gz_getR (pc := 22) cx qf_G_97 qd_G_queued_22 (gm_N (by assumption)) rfl rfl (hst _ _ _ rfl) ?_
      refine gz_iload_n (pc := 25) cx qd_G_queued_25 rfl rfl ?_
      refine gz_aaload (pc := 26) cx qd_G_queued_26 (by first | exact gm_tb (by assumption) | exact gm_ns | exact gm_cf | exact gm_w (by assumption) | exact gm_nw (by assumption) | exact gm_rs (by assumption) | exact gm_M (by assumption) | exact gm_R (by assumption) (by assumption) | exact gm_za (by decide) (by decide)) rfl ⟨by decide, by decide, rfl⟩ (hst _ _ _ rfl) rfl hj (by omega) ?_
      refine gz_getV (pc := 27) cx qf_G_105 qd_G_queued_27 (gm_E (by assumption) (by assumption)) rfl rfl (h.2.1 i j 4 hi hj (by decide)) ?_
      refine gz_goto (tgt := 34) (pc := 30) cx qd_G_queued_30 (by decide) ?_
      refine gz_ireturn (pc := 34) cx hr rfl qd_G_queued_34 ?_
      unfold oQueued
      rw [if_pos ⟨hrun, mIs_nI hj (by omega)⟩, nI_clamp (by omega), nI_clamp (by omega)]
      exact ⟨rfl, rfl⟩
theorem gc_G_seesJustTheRunning {G : gG} {la : Launch} {M : mM} {p i0 : Nat} {kc : Option (Nat × List Int32)} {S : gS} {i : Nat} (hi : i < G.1) (h : CR G M p i0 kc S) : gM G la qy_G_seesJustTheRunning qw_G_seesJustTheRunning 0 0 0 (gTt G) (gTt G) [.inr (some (0, 0, 0)), .inr (some (7, i, 0))] S (fun v S' => v = some (.inl (bI (mSees G.1 M i))) ∧ S' = S) := by
  refine gM_of (cc := qc_G_seesJustTheRunning) (maxL := 4) (by decide) rfl (Nat.le_of_ble_eq_true rfl) ?_
  intro E cx hr hnm hcz hsz hEl
  subst hEl
  have h8 := h.1.2.1
  have hst := h.1.1
  have hcnt := h.1.2.2.2.2
  suffices hh : ∀ k, k ≤ G.1 → (∀ m, m < k → mSee1 M i m = true) → gZ G E 0 0 (gEnd G E 0 0 (gTt G) (fun v S' => v = some (.inl (bI (mSees G.1 M i))) ∧ S' = S)) (gTt G) 2 [some (.inr (some (0, 0, 0))), some (.inr (some (7, i, 0))), some (.inl (nI k)), none] [] S by
    refine gz_iconst (v := 0) (pc := 0) cx qd_G_seesJustTheRunning_0 (by decide) ?_
    refine gz_istore_n (pc := 1) cx qd_G_seesJustTheRunning_1 rfl (Nat.le_of_ble_eq_true rfl) ?_
    exact hh 0 (Nat.zero_le _) (fun m q => absurd q (by omega))
  refine g_upto ?_ ?_
  · intro hall
    refine gz_iload_n (pc := 2) cx qd_G_seesJustTheRunning_2 rfl rfl ?_
    refine gz_aload_n (pc := 3) cx qd_G_seesJustTheRunning_3 rfl rfl ?_
    refine gz_getV (pc := 4) cx qf_G_18 qd_G_seesJustTheRunning_4 gm_G rfl rfl hcnt ?_
    refine gz_icmp_ge (tgt := 83) (pc := 7) cx qd_G_seesJustTheRunning_7 (by decide) (fun _ => ?_) (fun h7 => absurd (Int32.le_refl _) h7)
    refine gz_iconst (v := 1) (pc := 83) cx qd_G_seesJustTheRunning_83 (by decide) ?_
    refine gz_ireturn (pc := 84) cx hr (by decide) qd_G_seesJustTheRunning_84 ?_
    have e : mSees G.1 M i = true := by
      unfold mSees
      rw [List.all_eq_true]
      intro m hm
      exact hall m (List.mem_range.mp hm)
    rw [e]
    exact ⟨rfl, rfl⟩
  · intro k hk ih hall
    have e0 := h.2.1 i k 0 hi hk (by decide)
    have e1 := h.2.1 i k 1 hi hk (by decide)
    have ek := h.2.1 k k 1 hk hk (by decide)
    have e5 := h.2.2.1 k 5 hk (by decide) (by decide) (by decide)
    refine gz_iload_n (pc := 2) cx qd_G_seesJustTheRunning_2 rfl rfl ?_
    refine gz_aload_n (pc := 3) cx qd_G_seesJustTheRunning_3 rfl rfl ?_
    refine gz_getV (pc := 4) cx qf_G_18 qd_G_seesJustTheRunning_4 gm_G rfl rfl hcnt ?_
    refine gz_icmp_ge (tgt := 83) (pc := 7) cx qd_G_seesJustTheRunning_7 (by decide) (fun h7 => absurd h7 (nI_ge hk (by omega))) (fun _ => ?_)
    refine gz_aload_n (pc := 10) cx qd_G_seesJustTheRunning_10 rfl rfl ?_
    refine gz_getR (pc := 11) cx qf_G_97 qd_G_seesJustTheRunning_11 (gm_N (by assumption)) rfl rfl (hst _ _ _ rfl) ?_
    refine gz_iload_n (pc := 14) cx qd_G_seesJustTheRunning_14 rfl rfl ?_
    refine gz_aaload (pc := 15) cx qd_G_seesJustTheRunning_15 (by first | exact gm_tb (by assumption) | exact gm_ns | exact gm_cf | exact gm_w (by assumption) | exact gm_nw (by assumption) | exact gm_rs (by assumption) | exact gm_M (by assumption) | exact gm_R (by assumption) (by assumption) | exact gm_za (by decide) (by decide)) rfl ⟨by decide, by decide, rfl⟩ (hst _ _ _ rfl) rfl (by assumption) (by omega) ?_
    refine gz_astore_n (pc := 16) cx qd_G_seesJustTheRunning_16 rfl (Nat.le_of_ble_eq_true rfl) ?_
    refine gz_aload_n (pc := 17) cx qd_G_seesJustTheRunning_17 rfl rfl ?_
    refine gz_getR (pc := 18) cx qf_G_35 qd_G_seesJustTheRunning_18 gm_G rfl rfl (hst _ _ _ rfl) ?_
    refine gz_iload_n (pc := 21) cx qd_G_seesJustTheRunning_21 rfl rfl ?_
    refine gz_aaload (pc := 22) cx qd_G_seesJustTheRunning_22 (by first | exact gm_tb (by assumption) | exact gm_ns | exact gm_cf | exact gm_w (by assumption) | exact gm_nw (by assumption) | exact gm_rs (by assumption) | exact gm_M (by assumption) | exact gm_R (by assumption) (by assumption) | exact gm_za (by decide) (by decide)) rfl ⟨by decide, by decide, rfl⟩ (hst _ _ _ rfl) rfl (by assumption) (by omega) ?_
    refine gz_getV (pc := 23) cx qf_G_49 qd_G_seesJustTheRunning_23 (gm_N (by assumption)) rfl rfl e5 ?_
    refine gz_if_eq (tgt := 60) (pc := 26) cx qd_G_seesJustTheRunning_26 (by decide) (fun h26 => ?_) (fun h26 => ?_)
    · refine gz_aload_n (pc := 60) cx qd_G_seesJustTheRunning_60 rfl rfl ?_
      refine gz_getV (pc := 61) cx qf_G_128 qd_G_seesJustTheRunning_61 (gm_E (by assumption) (by assumption)) rfl rfl e0 ?_
      refine gz_if_eq (tgt := 77) (pc := 64) cx qd_G_seesJustTheRunning_64 (by decide) (fun h64 => ?_) (fun h64 => ?_)
      · refine gz_iinc (pc := 77) cx qd_G_seesJustTheRunning_77 rfl (g_inc k) ?_
        refine gz_goto (tgt := 2) (pc := 80) cx qd_G_seesJustTheRunning_80 (by decide) ?_
        refine gz_weak (lv' := [some (.inr (some (0, 0, 0))), some (.inr (some (7, i, 0))), some (.inl (nI (k + 1))), none]) ⟨rfl, rfl, rfl, trivial⟩ ?_
        refine ih (fun m hm => ?_)
        by_cases e : m = k
        · subst e
          unfold mSee1
          rw [if_pos (show M.1 15 m 0 = 0 from h26)]
          exact decide_eq_true (Or.inl h64)
        · exact hall m (by omega)
      · refine gz_aload_n (pc := 67) cx qd_G_seesJustTheRunning_67 rfl rfl ?_
        refine gz_getV (pc := 68) cx qf_G_128 qd_G_seesJustTheRunning_68 (gm_E (by assumption) (by assumption)) rfl rfl e0 ?_
        refine gz_iconst (v := 3) (pc := 71) cx qd_G_seesJustTheRunning_71 (by decide) ?_
        refine gz_icmp_eq (tgt := 77) (pc := 72) cx qd_G_seesJustTheRunning_72 (by decide) (fun h72 => ?_) (fun h72 => ?_)
        · refine gz_iinc (pc := 77) cx qd_G_seesJustTheRunning_77 rfl (g_inc k) ?_
          refine gz_goto (tgt := 2) (pc := 80) cx qd_G_seesJustTheRunning_80 (by decide) ?_
          refine gz_weak (lv' := [some (.inr (some (0, 0, 0))), some (.inr (some (7, i, 0))), some (.inl (nI (k + 1))), none]) ⟨rfl, rfl, rfl, trivial⟩ ?_
          refine ih (fun m hm => ?_)
          by_cases e : m = k
          · subst e
            unfold mSee1
            rw [if_pos (show M.1 15 m 0 = 0 from h26)]
            exact decide_eq_true (Or.inr h72)
          · exact hall m (by omega)
        · refine gz_iconst (v := 0) (pc := 75) cx qd_G_seesJustTheRunning_75 (by decide) ?_
          refine gz_ireturn (pc := 76) cx hr (by decide) qd_G_seesJustTheRunning_76 ?_
          have e : mSees G.1 M i = false := by
            rw [Bool.eq_false_iff]
            intro q
            unfold mSees at q
            rw [List.all_eq_true] at q
            have := q k (List.mem_range.mpr hk)
            unfold mSee1 at this
            rw [if_pos (show M.1 15 k 0 = 0 from h26)] at this
            exact (of_decide_eq_true this).elim h64 h72
          rw [e]
          exact ⟨rfl, rfl⟩
    · refine gz_aload_n (pc := 29) cx qd_G_seesJustTheRunning_29 rfl rfl ?_
      refine gz_getV (pc := 30) cx qf_G_128 qd_G_seesJustTheRunning_30 (gm_E (by assumption) (by assumption)) rfl rfl e0 ?_
      refine gz_iconst (v := 1) (pc := 33) cx qd_G_seesJustTheRunning_33 (by decide) ?_
      refine gz_icmp_ne (tgt := 58) (pc := 34) cx qd_G_seesJustTheRunning_34 (by decide) (fun h34 => ?_) (fun h34 => ?_)
      · refine gz_iconst (v := 0) (pc := 58) cx qd_G_seesJustTheRunning_58 (by decide) ?_
        refine gz_ireturn (pc := 59) cx hr (by decide) qd_G_seesJustTheRunning_59 ?_
        have e : mSees G.1 M i = false := by
          rw [Bool.eq_false_iff]
          intro q
          unfold mSees at q
          rw [List.all_eq_true] at q
          have := q k (List.mem_range.mpr hk)
          unfold mSee1 at this
          rw [if_neg (show ¬ M.1 15 k 0 = 0 from h26)] at this
          exact h34 (of_decide_eq_true this).1
        rw [e]
        exact ⟨rfl, rfl⟩
      · refine gz_aload_n (pc := 37) cx qd_G_seesJustTheRunning_37 rfl rfl ?_
        refine gz_getV (pc := 38) cx qf_G_131 qd_G_seesJustTheRunning_38 (gm_E (by assumption) (by assumption)) rfl rfl e1 ?_
        refine gz_aload_n (pc := 41) cx qd_G_seesJustTheRunning_41 rfl rfl ?_
        refine gz_getR (pc := 42) cx qf_G_35 qd_G_seesJustTheRunning_42 gm_G rfl rfl (hst _ _ _ rfl) ?_
        refine gz_iload_n (pc := 45) cx qd_G_seesJustTheRunning_45 rfl rfl ?_
        refine gz_aaload (pc := 46) cx qd_G_seesJustTheRunning_46 (by first | exact gm_tb (by assumption) | exact gm_ns | exact gm_cf | exact gm_w (by assumption) | exact gm_nw (by assumption) | exact gm_rs (by assumption) | exact gm_M (by assumption) | exact gm_R (by assumption) (by assumption) | exact gm_za (by decide) (by decide)) rfl ⟨by decide, by decide, rfl⟩ (hst _ _ _ rfl) rfl (by assumption) (by omega) ?_
        refine gz_getR (pc := 47) cx qf_G_97 qd_G_seesJustTheRunning_47 (gm_N (by assumption)) rfl rfl (hst _ _ _ rfl) ?_
        refine gz_iload_n (pc := 50) cx qd_G_seesJustTheRunning_50 rfl rfl ?_
        refine gz_aaload (pc := 51) cx qd_G_seesJustTheRunning_51 (by first | exact gm_tb (by assumption) | exact gm_ns | exact gm_cf | exact gm_w (by assumption) | exact gm_nw (by assumption) | exact gm_rs (by assumption) | exact gm_M (by assumption) | exact gm_R (by assumption) (by assumption) | exact gm_za (by decide) (by decide)) rfl ⟨by decide, by decide, rfl⟩ (hst _ _ _ rfl) rfl (by assumption) (by omega) ?_
        refine gz_getV (pc := 52) cx qf_G_131 qd_G_seesJustTheRunning_52 (gm_E (by assumption) (by assumption)) rfl rfl ek ?_
        refine gz_icmp_eq (tgt := 77) (pc := 55) cx qd_G_seesJustTheRunning_55 (by decide) (fun h55 => ?_) (fun h55 => ?_)
        · refine gz_iinc (pc := 77) cx qd_G_seesJustTheRunning_77 rfl (g_inc k) ?_
          refine gz_goto (tgt := 2) (pc := 80) cx qd_G_seesJustTheRunning_80 (by decide) ?_
          refine gz_weak (lv' := [some (.inr (some (0, 0, 0))), some (.inr (some (7, i, 0))), some (.inl (nI (k + 1))), none]) ⟨rfl, rfl, rfl, trivial⟩ ?_
          refine ih (fun m hm => ?_)
          by_cases e : m = k
          · subst e
            unfold mSee1
            rw [if_neg (show ¬ M.1 15 m 0 = 0 from h26)]
            exact decide_eq_true ⟨h34, h55⟩
          · exact hall m (by omega)
        · refine gz_iconst (v := 0) (pc := 58) cx qd_G_seesJustTheRunning_58 (by decide) ?_
          refine gz_ireturn (pc := 59) cx hr (by decide) qd_G_seesJustTheRunning_59 ?_
          have e : mSees G.1 M i = false := by
            rw [Bool.eq_false_iff]
            intro q
            unfold mSees at q
            rw [List.all_eq_true] at q
            have := q k (List.mem_range.mpr hk)
            unfold mSee1 at this
            rw [if_neg (show ¬ M.1 15 k 0 = 0 from h26)] at this
            exact h55 (of_decide_eq_true this).2
          rw [e]
          exact ⟨rfl, rfl⟩
theorem gc_G_agreed {G : gG} {la : Launch} {M : mM} {p i0 : Nat} {kc : Option (Nat × List Int32)} {S : gS} (h : CR G M p i0 kc S) : gM G la qy_G_agreed qw_G_agreed 1 0 0 (gTt G) (gTt G) [.inr (some (0, 0, 0))] S (fun v S' => v = some (.inl (bI (oAgreed G.1 M))) ∧ S' = S) := by
  refine gM_of (cc := qc_G_agreed) (maxL := 2) (by decide) rfl (Nat.le_of_ble_eq_true rfl) ?_
  intro E cx hr hnm hcz hsz hEl
  subst hEl
  have h8 := h.1.2.1
  have hst := h.1.1
  have hcnt := h.1.2.2.2.2
  suffices hh : ∀ k, k ≤ G.1 → (∀ i, i < k → (decide (M.1 15 i 0 = 0) || mSees G.1 M i) = true) → gZ G E 0 0 (gEnd G E 0 0 (gTt G) (fun v S' => v = some (.inl (bI (oAgreed G.1 M))) ∧ S' = S)) (gTt G) 2 [some (.inr (some (0, 0, 0))), some (.inl (nI k))] [] S by
    refine gz_iconst (v := 0) (pc := 0) cx qd_G_agreed_0 (by decide) ?_
    refine gz_istore_n (pc := 1) cx qd_G_agreed_1 rfl (Nat.le_of_ble_eq_true rfl) ?_
    exact hh 0 (Nat.zero_le _) (fun m q => absurd q (by omega))
  refine g_upto ?_ ?_
  · intro hall
    refine gz_iload_n (pc := 2) cx qd_G_agreed_2 rfl rfl ?_
    refine gz_aload_n (pc := 3) cx qd_G_agreed_3 rfl rfl ?_
    refine gz_getV (pc := 4) cx qf_G_18 qd_G_agreed_4 gm_G rfl rfl hcnt ?_
    refine gz_icmp_ge (tgt := 43) (pc := 7) cx qd_G_agreed_7 (by decide) (fun _ => ?_) (fun h7 => absurd (Int32.le_refl _) h7)
    refine gz_iconst (v := 1) (pc := 43) cx qd_G_agreed_43 (by decide) ?_
    refine gz_ireturn (pc := 44) cx hr (by decide) qd_G_agreed_44 ?_
    have e : oAgreed G.1 M = true := by
      unfold oAgreed
      rw [List.all_eq_true]
      intro m hm
      exact hall m (List.mem_range.mp hm)
    rw [e]
    exact ⟨rfl, rfl⟩
  · intro k hk ih hall
    have e5 := h.2.2.1 k 5 hk (by decide) (by decide) (by decide)
    refine gz_iload_n (pc := 2) cx qd_G_agreed_2 rfl rfl ?_
    refine gz_aload_n (pc := 3) cx qd_G_agreed_3 rfl rfl ?_
    refine gz_getV (pc := 4) cx qf_G_18 qd_G_agreed_4 gm_G rfl rfl hcnt ?_
    refine gz_icmp_ge (tgt := 43) (pc := 7) cx qd_G_agreed_7 (by decide) (fun h7 => absurd h7 (nI_ge hk (by omega))) (fun _ => ?_)
    refine gz_aload_n (pc := 10) cx qd_G_agreed_10 rfl rfl ?_
    refine gz_getR (pc := 11) cx qf_G_35 qd_G_agreed_11 gm_G rfl rfl (hst _ _ _ rfl) ?_
    refine gz_iload_n (pc := 14) cx qd_G_agreed_14 rfl rfl ?_
    refine gz_aaload (pc := 15) cx qd_G_agreed_15 (by first | exact gm_tb (by assumption) | exact gm_ns | exact gm_cf | exact gm_w (by assumption) | exact gm_nw (by assumption) | exact gm_rs (by assumption) | exact gm_M (by assumption) | exact gm_R (by assumption) (by assumption) | exact gm_za (by decide) (by decide)) rfl ⟨by decide, by decide, rfl⟩ (hst _ _ _ rfl) rfl (by assumption) (by omega) ?_
    refine gz_getV (pc := 16) cx qf_G_49 qd_G_agreed_16 (gm_N (by assumption)) rfl rfl e5 ?_
    refine gz_if_eq (tgt := 37) (pc := 19) cx qd_G_agreed_19 (by decide) (fun h19 => ?_) (fun h19 => ?_)
    · refine gz_iinc (pc := 37) cx qd_G_agreed_37 rfl (g_inc k) ?_
      refine gz_goto (tgt := 2) (pc := 40) cx qd_G_agreed_40 (by decide) ?_
      refine ih (fun m hm => ?_)
      by_cases e : m = k
      · subst e
        rw [decide_eq_true (show M.1 15 m 0 = 0 from h19)]; rfl
      · exact hall m (by omega)
    · refine gz_aload_n (pc := 22) cx qd_G_agreed_22 rfl rfl ?_
      refine gz_aload_n (pc := 23) cx qd_G_agreed_23 rfl rfl ?_
      refine gz_getR (pc := 24) cx qf_G_35 qd_G_agreed_24 gm_G rfl rfl (hst _ _ _ rfl) ?_
      refine gz_iload_n (pc := 27) cx qd_G_agreed_27 rfl rfl ?_
      refine gz_aaload (pc := 28) cx qd_G_agreed_28 (by first | exact gm_tb (by assumption) | exact gm_ns | exact gm_cf | exact gm_w (by assumption) | exact gm_nw (by assumption) | exact gm_rs (by assumption) | exact gm_M (by assumption) | exact gm_R (by assumption) (by assumption) | exact gm_za (by decide) (by decide)) rfl ⟨by decide, by decide, rfl⟩ (hst _ _ _ rfl) rfl (by assumption) (by omega) ?_
      refine gz_callV (pc := 29) cx qv_G_108 qd_G_agreed_29 (gc_G_seesJustTheRunning hk h) (by decide) rfl gm_G rfl rfl rfl rfl (Nat.le_of_ble_eq_true rfl) ⟨Nat.zero_le _, Nat.zero_le _⟩ ?_
      rintro _ S' ⟨rfl, hS'⟩
      subst hS'
      refine gz_if_ne (tgt := 37) (pc := 32) cx qd_G_agreed_32 (by decide) (fun h32 => ?_) (fun h32 => ?_)
      · refine gz_iinc (pc := 37) cx qd_G_agreed_37 rfl (g_inc k) ?_
        refine gz_goto (tgt := 2) (pc := 40) cx qd_G_agreed_40 (by decide) ?_
        refine ih (fun m hm => ?_)
        by_cases e : m = k
        · subst e
          rw [bB_t h32, Bool.or_true]
        · exact hall m (by omega)
      · refine gz_iconst (v := 0) (pc := 35) cx qd_G_agreed_35 (by decide) ?_
        refine gz_ireturn (pc := 36) cx hr (by decide) qd_G_agreed_36 ?_
        have e : oAgreed G.1 M = false := by
          rw [Bool.eq_false_iff]
          intro q
          unfold oAgreed at q
          rw [List.all_eq_true] at q
          have := q k (List.mem_range.mpr hk)
          rw [decide_eq_false (show ¬ M.1 15 k 0 = 0 from h19), bB_f h32] at this
          exact absurd this (by decide)
        rw [e]
        exact ⟨rfl, rfl⟩
