theorem gc_G_cut {G : gG} {la : Launch} {M : mM} {S : gS} {x y z : Int32} (h : CR G M 0 0 none S) (hz : z = 0 ∨ z = 1) (hsym : ∀ a b, a < G.1 → b < G.1 → M.1 30 a b = M.1 30 b a) : gM G la qy_G_cut qw_G_cut 1 0 0 (gTt G) (gTt G) [.inr (some (0, 0, 0)), .inl x, .inl y, .inl z] S (fun v S' => v = some (.inl (bI (oCut G.1 M x y z).1)) ∧ CR G (oCut G.1 M x y z).2 0 0 none S' ∧ gFr S S') := by
  refine gM_of (cc := qc_G_cut) (maxL := 4) (by decide) rfl (Nat.le_of_ble_eq_true rfl) ?_
  intro E cx hr hnm hcz hsz hEl
  subst hEl
  have h8 := h.1.2.1
  have hst := h.1.1
  refine gz_aload_n (pc := 0) cx qd_G_cut_0 rfl rfl ?_
  refine gz_iload_n (pc := 1) cx qd_G_cut_1 rfl rfl ?_
  refine gz_callV (pc := 2) cx qv_G_45 qd_G_cut_2 (gc_G_isNode h.1) (by decide) rfl gm_G rfl rfl rfl rfl (Nat.le_of_ble_eq_true rfl) ⟨Nat.zero_le _, Nat.zero_le _⟩ ?_
  rintro _ S' ⟨rfl, hS'⟩
  subst hS'
  refine gz_if_eq (tgt := 31) (pc := 5) cx qd_G_cut_5 (by decide) (fun h5 => ?_) (fun h5 => ?_)
  · refine gz_iconst (v := 0) (pc := 31) cx qd_G_cut_31 (by decide) ?_
    refine gz_ireturn (pc := 32) cx hr (by decide) qd_G_cut_32 ?_
    unfold oCut
    rw [if_neg (fun q => absurd q.1 (by rw [bB_f h5]; decide))]
    exact ⟨rfl, h, gFr.rf⟩
  · refine gz_aload_n (pc := 8) cx qd_G_cut_8 rfl rfl ?_
    refine gz_iload_n (pc := 9) cx qd_G_cut_9 rfl rfl ?_
    refine gz_callV (pc := 10) cx qv_G_45 qd_G_cut_10 (gc_G_isNode h.1) (by decide) rfl gm_G rfl rfl rfl rfl (Nat.le_of_ble_eq_true rfl) ⟨Nat.zero_le _, Nat.zero_le _⟩ ?_
    rintro _ S' ⟨rfl, hS'⟩
    subst hS'
    refine gz_if_eq (tgt := 31) (pc := 13) cx qd_G_cut_13 (by decide) (fun h13 => ?_) (fun h13 => ?_)
    · refine gz_iconst (v := 0) (pc := 31) cx qd_G_cut_31 (by decide) ?_
      refine gz_ireturn (pc := 32) cx hr (by decide) qd_G_cut_32 ?_
      unfold oCut
      rw [if_neg (fun q => absurd q.2.1 (by rw [bB_f h13]; decide))]
      exact ⟨rfl, h, gFr.rf⟩
    · obtain ⟨a, ha, rfl⟩ := (mIs_iff (by omega)).mp (bB_t h5)
      obtain ⟨b, hb, rfl⟩ := (mIs_iff (by omega)).mp (bB_t h13)
      refine gz_iload_n (pc := 16) cx qd_G_cut_16 rfl rfl ?_
      refine gz_iload_n (pc := 17) cx qd_G_cut_17 rfl rfl ?_
      refine gz_icmp_eq (tgt := 31) (pc := 18) cx qd_G_cut_18 (by decide) (fun h18 => ?_) (fun h18 => ?_)
      · refine gz_iconst (v := 0) (pc := 31) cx qd_G_cut_31 (by decide) ?_
        refine gz_ireturn (pc := 32) cx hr (by decide) qd_G_cut_32 ?_
        unfold oCut
        rw [if_neg (fun q => q.2.2.1 h18)]
        exact ⟨rfl, h, gFr.rf⟩
      · refine gz_aload_n (pc := 21) cx qd_G_cut_21 rfl rfl ?_
        refine gz_iload_n (pc := 22) cx qd_G_cut_22 rfl rfl ?_
        refine gz_iload_n (pc := 23) cx qd_G_cut_23 rfl rfl ?_
        refine gz_callV (pc := 24) cx qv_G_67 qd_G_cut_24 (gc_G_areCut ha hb h) (by decide) rfl gm_G rfl rfl rfl rfl (Nat.le_of_ble_eq_true rfl) ⟨Nat.zero_le _, Nat.zero_le _⟩ ?_
        rintro _ S' ⟨rfl, hS'⟩
        subst hS'
        refine gz_iload_n (pc := 27) cx qd_G_cut_27 rfl rfl ?_
        refine gz_icmp_ne (tgt := 33) (pc := 28) cx qd_G_cut_28 (by decide) (fun h28 => ?_) (fun h28 => ?_)
        · refine gz_aload_n (pc := 33) cx qd_G_cut_33 rfl rfl ?_
          refine gz_getR (pc := 34) cx qf_G_29 qd_G_cut_34 gm_G rfl rfl (hst _ _ _ rfl) ?_
          refine gz_iload_n (pc := 37) cx qd_G_cut_37 rfl rfl ?_
          refine gz_dup2 (pc := 38) cx qd_G_cut_38 ?_
          refine gz_iaload (pc := 39) cx qd_G_cut_39 (by first | exact gm_tb (by assumption) | exact gm_ns | exact gm_cf | exact gm_w (by assumption) | exact gm_nw (by assumption) | exact gm_rs (by assumption) | exact gm_M (by assumption) | exact gm_R (by assumption) (by assumption) | exact gm_za (by decide) (by decide)) rfl rfl ha (by omega) ?_
          refine gz_iconst (v := 1) (pc := 40) cx qd_G_cut_40 (by decide) ?_
          refine gz_iload_n (pc := 41) cx qd_G_cut_41 rfl rfl ?_
          refine gz_ishl (pc := 42) cx qd_G_cut_42 ?_
          refine gz_ixor (pc := 43) cx qd_G_cut_43 ?_
          refine gz_iastore (pc := 44) cx qd_G_cut_44 (by first | exact gm_tb (by assumption) | exact gm_ns | exact gm_cf | exact gm_w (by assumption) | exact gm_nw (by assumption) | exact gm_rs (by assumption) | exact gm_M (by assumption) | exact gm_R (by assumption) (by assumption) | exact gm_za (by decide) (by decide)) rfl rfl ha (by omega) ?_
          refine gz_aload_n (pc := 45) cx qd_G_cut_45 rfl rfl ?_
          refine gz_getR (pc := 46) cx qf_G_29 qd_G_cut_46 gm_G rfl rfl (hst _ _ _ rfl) ?_
          refine gz_iload_n (pc := 49) cx qd_G_cut_49 rfl rfl ?_
          refine gz_dup2 (pc := 50) cx qd_G_cut_50 ?_
          refine gz_iaload (pc := 51) cx qd_G_cut_51 (by first | exact gm_tb (by assumption) | exact gm_ns | exact gm_cf | exact gm_w (by assumption) | exact gm_nw (by assumption) | exact gm_rs (by assumption) | exact gm_M (by assumption) | exact gm_R (by assumption) (by assumption) | exact gm_za (by decide) (by decide)) rfl rfl hb (by omega) ?_
          refine gz_iconst (v := 1) (pc := 52) cx qd_G_cut_52 (by decide) ?_
          refine gz_iload_n (pc := 53) cx qd_G_cut_53 rfl rfl ?_
          refine gz_ishl (pc := 54) cx qd_G_cut_54 ?_
          refine gz_ixor (pc := 55) cx qd_G_cut_55 ?_
          refine gz_iastore (pc := 56) cx qd_G_cut_56 (by first | exact gm_tb (by assumption) | exact gm_ns | exact gm_cf | exact gm_w (by assumption) | exact gm_nw (by assumption) | exact gm_rs (by assumption) | exact gm_M (by assumption) | exact gm_R (by assumption) (by assumption) | exact gm_za (by decide) (by decide)) rfl rfl hb (by omega) ?_
          refine gz_iconst (v := 1) (pc := 57) cx qd_G_cut_57 (by decide) ?_
          refine gz_ireturn (pc := 58) cx hr (by decide) qd_G_cut_58 ?_
          have hv : z = 1 ↔ ¬ M.1 30 a b = 1 := by
            unfold mCutB at h28
            rcases hz with rfl | rfl
            · constructor
              · intro q; exact absurd q (by decide)
              · intro q; exact absurd (by rw [decide_eq_false q]; rfl) h28
            · constructor
              · intro _ q; exact h28 (by rw [decide_eq_true q]; rfl)
              · intro _; rfl
          have hab : ¬ a = b := fun q => h18 (by rw [q])
          obtain ⟨c1, f1⟩ := h.cutX (v := z) ha hb hv
          obtain ⟨c2, f2⟩ := c1.cutX (v := z) hb ha (by rw [mSet_ne (by omega), ← hsym a b ha hb]; exact hv)
          unfold oCut
          rw [if_pos ⟨mIs_nI ha (by omega), mIs_nI hb (by omega), h18, by rw [nI_clamp (by omega), nI_clamp (by omega)]; exact h28⟩, nI_clamp (by omega), nI_clamp (by omega)]
          exact ⟨rfl, c2, f1.tr f2⟩
        · refine gz_iconst (v := 0) (pc := 31) cx qd_G_cut_31 (by decide) ?_
          refine gz_ireturn (pc := 32) cx hr (by decide) qd_G_cut_32 ?_
          unfold oCut
          rw [if_neg (fun q => q.2.2.2 (by rw [nI_clamp (by omega), nI_clamp (by omega)]; exact h28))]
          exact ⟨rfl, h, gFr.rf⟩
theorem gc_G_deliverAll {G : gG} {la : Launch} {M : mM} {S : gS} (h : CR G M 0 0 none S) (hok : mDelOk G.1 M.2.2.length M) : gM G la qy_G_deliverAll qw_G_deliverAll 5 0 0 (gTt G) (gTt G) [.inr (some (0, 0, 0))] S (fun v S' => v = some (.inl (mDelF G.1 M.2.2.length M 0).2) ∧ CR G (mDelF G.1 M.2.2.length M 0).1 0 0 none S' ∧ gFr S S') := by
  refine gM_of (cc := qc_G_deliverAll) (maxL := 6) (by decide) rfl (Nat.le_of_ble_eq_true rfl) ?_
  intro E cx hr hnm hcz hsz hEl
  subst hEl
  have h8 := h.1.2.1
  have hst := h.1.1
  obtain ⟨b0, hb0⟩ : ∃ b, S.2 (3, 0, 0) 0 = some (4, b, 0) := by
    obtain ⟨b, σ, hb, a1, -⟩ := h.2.2.2.2.2
    exact ⟨b, a1⟩
  obtain ⟨hb2, hl1, hl60, hsz, hF1⟩ := h.2.2.2.2.2.land hb0
  obtain ⟨c1, f1⟩ := h.F (fun k f hne => by rw [gI1, if_neg (fun q => hne q.1)]; rfl) (fun k f hne h4 => by rw [gI2, gX2, if_neg (fun q => hne q.1), gX2, if_neg (fun q => hne q.1)]) (by rw [gI2, gX2, if_neg (fun q => by simp at q), gX2, if_neg (fun q => by simp at q)]) hF1
  rw [mFl_id] at c1
  suffices hh : ∀ p x Mx Sx c, x + p = M.2.2.length → CR G Mx p x none Sx → gFr S Sx → mDelOk G.1 p Mx → mDelF G.1 M.2.2.length M 0 = mDelF G.1 p Mx c → gZ G E 0 0 (gEnd G E 0 0 (gTt G) (fun v S' => v = some (.inl (mDelF G.1 M.2.2.length M 0).2) ∧ CR G (mDelF G.1 M.2.2.length M 0).1 0 0 none S' ∧ gFr S S')) (gTt G) 12 [some (.inr (some (0, 0, 0))), some (.inl (nI M.2.2.length)), some (.inl c), some (.inl (nI x)), none, none] [] Sx by
    refine gz_aload_n (pc := 0) cx qd_G_deliverAll_0 rfl rfl ?_
    refine gz_getR (pc := 1) cx qf_G_25 qd_G_deliverAll_1 gm_G rfl rfl (hst _ _ _ rfl) ?_
    refine gz_callV (pc := 4) cx qv_G_112 qd_G_deliverAll_4 (gc_F_land hb0 hl1) (by decide) rfl gm_F rfl rfl rfl rfl (Nat.le_of_ble_eq_true rfl) ⟨Nat.zero_le _, Nat.zero_le _⟩ ?_
    rintro _ S' ⟨rfl, hS'⟩
    subst hS'
    rw [hsz]
    refine gz_istore_n (pc := 7) cx qd_G_deliverAll_7 rfl (Nat.le_of_ble_eq_true rfl) ?_
    refine gz_iconst (v := 0) (pc := 8) cx qd_G_deliverAll_8 (by decide) ?_
    refine gz_istore_n (pc := 9) cx qd_G_deliverAll_9 rfl (Nat.le_of_ble_eq_true rfl) ?_
    refine gz_iconst (v := 0) (pc := 10) cx qd_G_deliverAll_10 (by decide) ?_
    refine gz_istore_n (pc := 11) cx qd_G_deliverAll_11 rfl (Nat.le_of_ble_eq_true rfl) ?_
    exact hh M.2.2.length 0 M _ 0 (by omega) c1 f1 hok rfl
  intro p
  induction p with
  | zero =>
    intro x Mx Sx c hx hc hf hk he
    obtain rfl : x = M.2.2.length := by omega
    refine gz_iload_n (pc := 12) cx qd_G_deliverAll_12 rfl rfl ?_
    refine gz_iload_n (pc := 13) cx qd_G_deliverAll_13 rfl rfl ?_
    refine gz_icmp_ge (tgt := 85) (pc := 14) cx qd_G_deliverAll_14 (by decide) (fun _ => ?_) (fun h14 => absurd (Int32.le_refl _) h14)
    refine gz_iload_n (pc := 85) cx qd_G_deliverAll_85 rfl rfl ?_
    refine gz_ireturn (pc := 86) cx hr rfl qd_G_deliverAll_86 ?_
    rw [he]
    exact ⟨rfl, ⟨hc.1, hc.2.1, hc.2.2.1, hc.2.2.2.1, hc.2.2.2.2.1, hc.2.2.2.2.2.rest (by decide)⟩, hf⟩
  | succ p ih =>
    intro x Mx Sx c hx hc hf hk he
    have hst := hc.1.1
    obtain ⟨b, a, msg, r, hb, hl, hx60, ha5, ha, hfl, hF2⟩ := hc.2.2.2.2.2.take
    have c2 : CR G (mFl Mx r) p (x + 1) (some (a, msg)) Sx := ⟨hc.1, hc.2.1, hc.2.2.1, hc.2.2.2.1, hc.2.2.2.2.1, hF2⟩
    have c3 : CR G (mFl Mx r) p (x + 1) none Sx := ⟨hc.1, hc.2.1, hc.2.2.1, hc.2.2.2.1, hc.2.2.2.2.1, hF2.done⟩
    obtain ⟨hw, hlen, hk2⟩ := hk
    rw [hfl] at hw hlen
    have hw' : mWf G.1 msg := hw
    have hlen' : (mFl Mx r).2.2.length < 60 := hlen
    obtain ⟨cc, hcc8, hcl, hc6, ⟨s, hs, hms⟩, ⟨t, ht, hmt⟩, -, -, -⟩ := hw'
    obtain ⟨-, c9, -, -, -, hmf, -⟩ := c2.cur
    have e5 := c2.2.2.1 t 5 ht (by decide) (by decide) (by decide)
    have e4 := c2.2.2.2.2.1.2
    have hd : mDel1 G.1 Mx = if Mx.1 15 t 0 ≠ 0 ∧ mCutB Mx s t = false then (true, mRecv G.1 (mFl Mx r) t msg (Mx.1 31 0 0)) else (false, mFl Mx r) := by
      unfold mDel1
      rw [hfl]
      show (if Mx.1 15 (msg.getD 2 0).toNatClampNeg 0 ≠ 0 ∧ mCutB Mx (msg.getD 1 0).toNatClampNeg (msg.getD 2 0).toNatClampNeg = false then (true, mRecv G.1 (mFl Mx r) (msg.getD 2 0).toNatClampNeg msg (Mx.1 31 0 0)) else (false, mFl Mx r)) = _
      rw [hms, hmt, nI_clamp (by omega), nI_clamp (by omega)]
    rw [mDelF] at he
    refine gz_iload_n (pc := 12) cx qd_G_deliverAll_12 rfl rfl ?_
    refine gz_iload_n (pc := 13) cx qd_G_deliverAll_13 rfl rfl ?_
    refine gz_icmp_ge (tgt := 85) (pc := 14) cx qd_G_deliverAll_14 (by decide) (fun h14 => absurd h14 (nI_ge (by omega) (by omega))) (fun _ => ?_)
    refine gz_aload_n (pc := 17) cx qd_G_deliverAll_17 rfl rfl ?_
    refine gz_getR (pc := 18) cx qf_G_25 qd_G_deliverAll_18 gm_G rfl rfl (hst _ _ _ rfl) ?_
    refine gz_getR (pc := 21) cx qf_G_115 qd_G_deliverAll_21 gm_F rfl rfl hl ?_
    refine gz_iload_n (pc := 24) cx qd_G_deliverAll_24 rfl rfl ?_
    refine gz_aaload (pc := 25) cx qd_G_deliverAll_25 (by first | exact gm_tb (by assumption) | exact gm_ns | exact gm_cf | exact gm_w (by assumption) | exact gm_nw (by assumption) | exact gm_rs (by assumption) | exact gm_M (by assumption) | exact gm_R (by assumption) (by assumption) | exact gm_za (by decide) (by decide)) rfl ⟨by decide, by decide, rfl⟩ ha5 rfl hx60 (by decide) ?_
    refine gz_astore (pc := 26) cx qd_G_deliverAll_26 (Nat.le_of_ble_eq_true rfl) ?_
    refine gz_aload_n (pc := 28) cx qd_G_deliverAll_28 rfl rfl ?_
    refine gz_getR (pc := 29) cx qf_G_35 qd_G_deliverAll_29 gm_G rfl rfl (hst _ _ _ rfl) ?_
    refine gz_aload (pc := 32) cx qd_G_deliverAll_32 rfl ?_
    refine gz_getV (pc := 34) cx qf_G_118 qd_G_deliverAll_34 (gm_M (by assumption)) rfl rfl ((hmf 2 (by decide)).trans hmt) ?_
    refine gz_aaload (pc := 37) cx qd_G_deliverAll_37 (by first | exact gm_tb (by assumption) | exact gm_ns | exact gm_cf | exact gm_w (by assumption) | exact gm_nw (by assumption) | exact gm_rs (by assumption) | exact gm_M (by assumption) | exact gm_R (by assumption) (by assumption) | exact gm_za (by decide) (by decide)) rfl ⟨by decide, by decide, rfl⟩ (hst _ _ _ rfl) rfl ht (by omega) ?_
    refine gz_astore (pc := 38) cx qd_G_deliverAll_38 (Nat.le_of_ble_eq_true rfl) ?_
    refine gz_aload (pc := 40) cx qd_G_deliverAll_40 rfl ?_
    refine gz_getV (pc := 42) cx qf_G_49 qd_G_deliverAll_42 (gm_N (by assumption)) rfl rfl e5 ?_
    refine gz_if_eq (tgt := 79) (pc := 45) cx qd_G_deliverAll_45 (by decide) (fun h45 => ?_) (fun h45 => ?_)
    · refine gz_iinc (pc := 79) cx qd_G_deliverAll_79 rfl (g_inc x) ?_
      refine gz_goto (tgt := 12) (pc := 82) cx qd_G_deliverAll_82 (by decide) ?_
      refine gz_weak (lv' := [some (.inr (some (0, 0, 0))), some (.inl (nI M.2.2.length)), some (.inl c), some (.inl (nI (x + 1))), none, none]) ⟨rfl, rfl, rfl, rfl, trivial⟩ ?_
      rw [hd, if_neg (fun q => q.1 h45)] at he hk2
      exact ih (x + 1) _ _ c (by omega) c3 hf hk2 he
    · refine gz_aload_n (pc := 48) cx qd_G_deliverAll_48 rfl rfl ?_
      refine gz_aload (pc := 49) cx qd_G_deliverAll_49 rfl ?_
      refine gz_getV (pc := 51) cx qf_G_121 qd_G_deliverAll_51 (gm_M (by assumption)) rfl rfl ((hmf 1 (by decide)).trans hms) ?_
      refine gz_aload (pc := 54) cx qd_G_deliverAll_54 rfl ?_
      refine gz_getV (pc := 56) cx qf_G_118 qd_G_deliverAll_56 (gm_M (by assumption)) rfl rfl ((hmf 2 (by decide)).trans hmt) ?_
      refine gz_callV (pc := 59) cx qv_G_67 qd_G_deliverAll_59 (gc_G_areCut hs ht c2) (by decide) rfl gm_G rfl rfl rfl rfl (Nat.le_of_ble_eq_true rfl) ⟨Nat.zero_le _, Nat.zero_le _⟩ ?_
      rintro _ S' ⟨rfl, hS'⟩
      subst hS'
      refine gz_if_ne (tgt := 79) (pc := 62) cx qd_G_deliverAll_62 (by decide) (fun h62 => ?_) (fun h62 => ?_)
      · refine gz_iinc (pc := 79) cx qd_G_deliverAll_79 rfl (g_inc x) ?_
        refine gz_goto (tgt := 12) (pc := 82) cx qd_G_deliverAll_82 (by decide) ?_
        refine gz_weak (lv' := [some (.inr (some (0, 0, 0))), some (.inl (nI M.2.2.length)), some (.inl c), some (.inl (nI (x + 1))), none, none]) ⟨rfl, rfl, rfl, rfl, trivial⟩ ?_
        rw [hd, if_neg (fun q => absurd q.2 (by rw [show mCutB Mx s t = true from bB_t h62]; decide))] at he hk2
        exact ih (x + 1) _ _ c (by omega) c3 hf hk2 he
      · refine gz_iinc (pc := 65) cx qd_G_deliverAll_65 rfl rfl ?_
        refine gz_aload (pc := 68) cx qd_G_deliverAll_68 rfl ?_
        refine gz_aload (pc := 70) cx qd_G_deliverAll_70 rfl ?_
        refine gz_aload_n (pc := 72) cx qd_G_deliverAll_72 rfl rfl ?_
        refine gz_getV (pc := 73) cx qf_G_42 qd_G_deliverAll_73 gm_G rfl rfl e4 ?_
        refine gz_callV (pc := 76) cx qv_G_124 qd_G_deliverAll_76 (gc_N_receive ht c2 hlen' hw) (by decide) rfl (gm_N (by assumption)) rfl rfl rfl rfl (Nat.le_of_ble_eq_true rfl) ⟨Nat.zero_le _, Nat.zero_le _⟩ ?_
        rintro _ S3 ⟨rfl, c4, f4⟩
        refine gz_iinc (pc := 79) cx qd_G_deliverAll_79 rfl (g_inc x) ?_
        refine gz_goto (tgt := 12) (pc := 82) cx qd_G_deliverAll_82 (by decide) ?_
        refine gz_weak (lv' := [some (.inr (some (0, 0, 0))), some (.inl (nI M.2.2.length)), some (.inl (c + 1)), some (.inl (nI (x + 1))), none, none]) ⟨rfl, rfl, rfl, rfl, trivial⟩ ?_
        rw [hd, if_pos ⟨h45, bB_f h62⟩] at he hk2
        exact ih (x + 1) _ _ (c + 1) (by omega) ⟨c4.1, c4.2.1, c4.2.2.1, c4.2.2.2.1, c4.2.2.2.2.1, c4.2.2.2.2.2.done⟩ (hf.tr f4) hk2 he
theorem gc_G_ticks {G : gG} {la : Launch} {M : mM} {S : gS} {x : Int32} (h : CR G M 0 0 none S) (hok : ¬ (x < 0 ∨ 100 < x) → ∀ t, t < x.toNatClampNeg → mTickOk G.1 (mTicks G.1 t (M, 0)).1) : gM G la qy_G_ticks qw_G_ticks 6 0 0 (gTt G) (gTt G) [.inr (some (0, 0, 0)), .inl x] S (fun v S' => v = some (.inl (oTicks G.1 M x).2) ∧ CR G (oTicks G.1 M x).1 0 0 none S' ∧ gFr S S') := by
  refine gM_of (cc := qc_G_ticks) (maxL := 5) (by decide) rfl (Nat.le_of_ble_eq_true rfl) ?_
  intro E cx hr hnm hcz hsz hEl
  subst hEl
  have h8 := h.1.2.1
  refine gz_iload_n (pc := 0) cx qd_G_ticks_0 rfl rfl ?_
  refine gz_if_lt (tgt := 10) (pc := 1) cx qd_G_ticks_1 (by decide) (fun h1 => ?_) (fun h1 => ?_)
  · refine gz_iconst (v := -1) (pc := 10) cx qd_G_ticks_10 (by decide) ?_
    refine gz_ireturn (pc := 11) cx hr rfl qd_G_ticks_11 ?_
    unfold oTicks
    rw [if_pos (Or.inl h1)]
    exact ⟨rfl, h, gFr.rf⟩
  · refine gz_iload_n (pc := 4) cx qd_G_ticks_4 rfl rfl ?_
    refine gz_bipush (v := 100) (pc := 5) cx qd_G_ticks_5 (by decide) ?_
    refine gz_icmp_le (tgt := 12) (pc := 7) cx qd_G_ticks_7 (by decide) (fun h7 => ?_) (fun h7 => ?_)
    · obtain ⟨X, hX, rfl⟩ := nI_of h1
      have hX100 : X ≤ 100 := (nI_leI hX (by decide : 100 < 2 ^ 31)).mp h7
      replace hok := hok (fun q => q.elim h1 (fun z => absurd z (Int32.not_lt.mpr h7)))
      rw [nI_clamp hX] at hok
      have hsp : oTicks G.1 M (nI X) = mTicks G.1 X (M, 0) := by
        unfold oTicks
        rw [if_neg (fun q => q.elim h1 (fun z => absurd z (Int32.not_lt.mpr h7))), nI_clamp hX]
      suffices hh : ∀ t, t ≤ X → ∀ St, CR G (mTicks G.1 t (M, 0)).1 0 0 none St → gFr S St → gZ G E 0 0 (gEnd G E 0 0 (gTt G) (fun v S' => v = some (.inl (oTicks G.1 M (nI X)).2) ∧ CR G (oTicks G.1 M (nI X)).1 0 0 none S' ∧ gFr S S')) (gTt G) 16 [some (.inr (some (0, 0, 0))), some (.inl (nI X)), some (.inl (mTicks G.1 t (M, 0)).2), some (.inl (nI t)), none] [] St by
        refine gz_iconst (v := 0) (pc := 12) cx qd_G_ticks_12 (by decide) ?_
        refine gz_istore_n (pc := 13) cx qd_G_ticks_13 rfl (Nat.le_of_ble_eq_true rfl) ?_
        refine gz_iconst (v := 0) (pc := 14) cx qd_G_ticks_14 (by decide) ?_
        refine gz_istore_n (pc := 15) cx qd_G_ticks_15 rfl (Nat.le_of_ble_eq_true rfl) ?_
        exact hh 0 (Nat.zero_le _) S h gFr.rf
      refine g_upto ?_ ?_
      · intro St hc hf
        refine gz_iload_n (pc := 16) cx qd_G_ticks_16 rfl rfl ?_
        refine gz_iload_n (pc := 17) cx qd_G_ticks_17 rfl rfl ?_
        refine gz_icmp_ge (tgt := 89) (pc := 18) cx qd_G_ticks_18 (by decide) (fun _ => ?_) (fun h18 => absurd (Int32.le_refl _) h18)
        refine gz_iload_n (pc := 89) cx qd_G_ticks_89 rfl rfl ?_
        refine gz_ireturn (pc := 90) cx hr rfl qd_G_ticks_90 ?_
        rw [hsp]
        exact ⟨rfl, hc, hf⟩
      · intro t ht ih St hc hf
        obtain ⟨ok1, ok2⟩ := hok t ht
        have e4 := hc.2.2.2.2.1.2
        have hst := hc.1.1
        obtain ⟨c1, f1⟩ := hc.time ((mTicks G.1 t (M, 0)).1.1 31 0 0 + 1)
        refine gz_iload_n (pc := 16) cx qd_G_ticks_16 rfl rfl ?_
        refine gz_iload_n (pc := 17) cx qd_G_ticks_17 rfl rfl ?_
        refine gz_icmp_ge (tgt := 89) (pc := 18) cx qd_G_ticks_18 (by decide) (fun h18 => absurd h18 (nI_ge ht (by omega))) (fun _ => ?_)
        refine gz_aload_n (pc := 21) cx qd_G_ticks_21 rfl rfl ?_
        refine gz_dup (pc := 22) cx qd_G_ticks_22 ?_
        refine gz_getV (pc := 23) cx qf_G_42 qd_G_ticks_23 gm_G rfl rfl e4 ?_
        refine gz_iconst (v := 1) (pc := 26) cx qd_G_ticks_26 (by decide) ?_
        refine gz_iadd (pc := 27) cx qd_G_ticks_27 ?_
        refine gz_putI (pc := 28) cx qp_G_42 qd_G_ticks_28 gm_G rfl rfl ⟨rfl, rfl⟩ (fun h => nomatch h) ?_
        refine gz_iload_n (pc := 31) cx qd_G_ticks_31 rfl rfl ?_
        refine gz_aload_n (pc := 32) cx qd_G_ticks_32 rfl rfl ?_
        refine gz_callV (pc := 33) cx qv_G_77 qd_G_ticks_33 (gc_G_deliverAll c1 ok1) (by decide) rfl gm_G rfl rfl rfl rfl (Nat.le_of_ble_eq_true rfl) ⟨Nat.zero_le _, Nat.zero_le _⟩ ?_
        rintro _ S2 ⟨rfl, c2, f2⟩
        refine gz_iadd (pc := 36) cx qd_G_ticks_36 ?_
        refine gz_istore_n (pc := 37) cx qd_G_ticks_37 rfl (Nat.le_of_ble_eq_true rfl) ?_
        refine gz_iconst (v := 0) (pc := 38) cx qd_G_ticks_38 (by decide) ?_
        refine gz_istore (pc := 39) cx qd_G_ticks_39 (Nat.le_of_ble_eq_true rfl) ?_
        suffices hh : ∀ k, k ≤ G.1 → ∀ Sk, CR G (mTims G.1 k (mDelF G.1 (mTicks G.1 t (M, 0)).1.2.2.length (mClk (mTicks G.1 t (M, 0)).1) 0).1) 0 0 none Sk → gFr S Sk → gZ G E 0 0 (gEnd G E 0 0 (gTt G) (fun v S' => v = some (.inl (oTicks G.1 M (nI X)).2) ∧ CR G (oTicks G.1 M (nI X)).1 0 0 none S' ∧ gFr S S')) (gTt G) 41 [some (.inr (some (0, 0, 0))), some (.inl (nI X)), some (.inl (mTicks G.1 (t + 1) (M, 0)).2), some (.inl (nI t)), some (.inl (nI k))] [] Sk by
          exact hh 0 (Nat.zero_le _) S2 c2 ((hf.tr f1).tr f2)
        refine g_upto ?_ ?_
        · intro Sk hk hfk
          refine gz_iload (pc := 41) cx qd_G_ticks_41 rfl ?_
          refine gz_aload_n (pc := 43) cx qd_G_ticks_43 rfl rfl ?_
          refine gz_getV (pc := 44) cx qf_G_18 qd_G_ticks_44 gm_G rfl rfl hk.1.2.2.2.2 ?_
          refine gz_icmp_ge (tgt := 83) (pc := 47) cx qd_G_ticks_47 (by decide) (fun _ => ?_) (fun h47 => absurd (Int32.le_refl _) h47)
          refine gz_iinc (pc := 83) cx qd_G_ticks_83 rfl (g_inc t) ?_
          refine gz_goto (tgt := 16) (pc := 86) cx qd_G_ticks_86 (by decide) ?_
          refine gz_weak (lv' := [some (.inr (some (0, 0, 0))), some (.inl (nI X)), some (.inl (mTicks G.1 (t + 1) (M, 0)).2), some (.inl (nI (t + 1))), none]) ⟨rfl, rfl, rfl, rfl, trivial⟩ ?_
          exact ih _ hk hfk
        · intro k hkn ihk Sk hk hfk
          have hst := hk.1.1
          have e5 := hk.2.2.1 k 5 hkn (by decide) (by decide) (by decide)
          have e4 := hk.2.2.2.2.1.2
          refine gz_iload (pc := 41) cx qd_G_ticks_41 rfl ?_
          refine gz_aload_n (pc := 43) cx qd_G_ticks_43 rfl rfl ?_
          refine gz_getV (pc := 44) cx qf_G_18 qd_G_ticks_44 gm_G rfl rfl hk.1.2.2.2.2 ?_
          refine gz_icmp_ge (tgt := 83) (pc := 47) cx qd_G_ticks_47 (by decide) (fun h47 => absurd h47 (nI_ge hkn (by omega))) (fun _ => ?_)
          refine gz_aload_n (pc := 50) cx qd_G_ticks_50 rfl rfl ?_
          refine gz_getR (pc := 51) cx qf_G_35 qd_G_ticks_51 gm_G rfl rfl (hst _ _ _ rfl) ?_
          refine gz_iload (pc := 54) cx qd_G_ticks_54 rfl ?_
          refine gz_aaload (pc := 56) cx qd_G_ticks_56 (by first | exact gm_tb (by assumption) | exact gm_ns | exact gm_cf | exact gm_w (by assumption) | exact gm_nw (by assumption) | exact gm_rs (by assumption) | exact gm_M (by assumption) | exact gm_R (by assumption) (by assumption) | exact gm_za (by decide) (by decide)) rfl ⟨by decide, by decide, rfl⟩ (hst _ _ _ rfl) rfl (by assumption) (by omega) ?_
          refine gz_getV (pc := 57) cx qf_G_49 qd_G_ticks_57 (gm_N (by assumption)) rfl rfl e5 ?_
          refine gz_if_eq (tgt := 77) (pc := 60) cx qd_G_ticks_60 (by decide) (fun h60 => ?_) (fun h60 => ?_)
          · refine gz_iinc (pc := 77) cx qd_G_ticks_77 rfl (g_inc k) ?_
            refine gz_goto (tgt := 41) (pc := 80) cx qd_G_ticks_80 (by decide) ?_
            refine ihk _ ?_ hfk
            show CR G (if (mTims G.1 k (mDelF G.1 (mTicks G.1 t (M, 0)).1.2.2.length (mClk (mTicks G.1 t (M, 0)).1) 0).1).1 15 k 0 = 0 then _ else _) _ _ _ _
            rw [if_pos h60]
            exact hk
          · refine gz_aload_n (pc := 63) cx qd_G_ticks_63 rfl rfl ?_
            refine gz_getR (pc := 64) cx qf_G_35 qd_G_ticks_64 gm_G rfl rfl (hst _ _ _ rfl) ?_
            refine gz_iload (pc := 67) cx qd_G_ticks_67 rfl ?_
            refine gz_aaload (pc := 69) cx qd_G_ticks_69 (by first | exact gm_tb (by assumption) | exact gm_ns | exact gm_cf | exact gm_w (by assumption) | exact gm_nw (by assumption) | exact gm_rs (by assumption) | exact gm_M (by assumption) | exact gm_R (by assumption) (by assumption) | exact gm_za (by decide) (by decide)) rfl ⟨by decide, by decide, rfl⟩ (hst _ _ _ rfl) rfl (by assumption) (by omega) ?_
            refine gz_aload_n (pc := 70) cx qd_G_ticks_70 rfl rfl ?_
            refine gz_getV (pc := 71) cx qf_G_42 qd_G_ticks_71 gm_G rfl rfl e4 ?_
            refine gz_callV (pc := 74) cx qv_G_81 qd_G_ticks_74 (gc_N_timer hkn hk (ok2 k hkn h60)) (by decide) rfl (gm_N (by assumption)) rfl rfl rfl rfl (Nat.le_of_ble_eq_true rfl) ⟨Nat.zero_le _, Nat.zero_le _⟩ ?_
            rintro _ S3 ⟨rfl, c3, f3⟩
            refine gz_iinc (pc := 77) cx qd_G_ticks_77 rfl (g_inc k) ?_
            refine gz_goto (tgt := 41) (pc := 80) cx qd_G_ticks_80 (by decide) ?_
            refine ihk _ ?_ (hfk.tr f3)
            show CR G (if (mTims G.1 k (mDelF G.1 (mTicks G.1 t (M, 0)).1.2.2.length (mClk (mTicks G.1 t (M, 0)).1) 0).1).1 15 k 0 = 0 then _ else _) _ _ _ _
            rw [if_neg h60]
            exact c3
    · refine gz_iconst (v := -1) (pc := 10) cx qd_G_ticks_10 (by decide) ?_
      refine gz_ireturn (pc := 11) cx hr rfl qd_G_ticks_11 ?_
      unfold oTicks
      rw [if_pos (Or.inr (Int32.not_le.mp h7))]
      exact ⟨rfl, h, gFr.rf⟩
