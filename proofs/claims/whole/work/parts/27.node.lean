theorem gc_N_begin {G : gG} {la : Launch} {M : mM} {i0 : Nat} {kc : Option (Nat × List Int32)} {S : gS} {i : Nat} {w : Int32} (hi : i < G.1) (h : CR G M 0 i0 kc S) : gM G la qy_N_begin qw_N_begin 2 0 0 (gTt G) (gTt G) [.inr (some (7, i, 0)), .inl w] S (fun v S' => v = none ∧ CR G (mBegin G.1 M i w) 0 i0 kc S' ∧ gFr S S') := by
  refine gM_of (cc := qc_N_begin) (maxL := 3) (by decide) rfl (Nat.le_of_ble_eq_true rfl) ?_
  intro E cx hr hnm hcz hsz hEl
  subst hEl
  have h8 := h.1.2.1
  suffices hh : ∀ k, k ≤ G.1 → ∀ Sk, CR G (mForget M i k) 0 i0 kc Sk → gFr S Sk → gZ G E 0 0 (gEnd G E 0 0 (gTt G) (fun v S' => v = none ∧ CR G (mBegin G.1 M i w) 0 i0 kc S' ∧ gFr S S')) (gTt G) 2 [some (.inr (some (7, i, 0))), some (.inl w), some (.inl (nI k))] [] Sk by
    refine gz_iconst (v := 0) (pc := 0) cx qd_N_begin_0 (by decide) ?_
    refine gz_istore_n (pc := 1) cx qd_N_begin_1 rfl (Nat.le_of_ble_eq_true rfl) ?_
    exact hh 0 (Nat.zero_le _) S h gFr.rf
  refine g_upto ?_ ?_
  · intro Sk hc hf
    obtain ⟨hid, hcnt⟩ := hc.1.2.2.2.1 i hi
    have hst := hc.1.1
    refine gz_iload_n (pc := 2) cx qd_N_begin_2 rfl rfl ?_
    refine gz_aload_n (pc := 3) cx qd_N_begin_3 rfl rfl ?_
    refine gz_getV (pc := 4) cx qf_N_21 qd_N_begin_4 (gm_N (by assumption)) rfl rfl hcnt ?_
    refine gz_icmp_ge (tgt := 25) (pc := 7) cx qd_N_begin_7 (by decide) (fun _ => ?_) (fun h7 => absurd (Int32.le_refl _) h7)
    refine gz_aload_n (pc := 25) cx qd_N_begin_25 rfl rfl ?_
    refine gz_getR (pc := 26) cx qf_N_30 qd_N_begin_26 (gm_N (by assumption)) rfl rfl (hst _ _ _ rfl) ?_
    refine gz_aload_n (pc := 29) cx qd_N_begin_29 rfl rfl ?_
    refine gz_getV (pc := 30) cx qf_N_17 qd_N_begin_30 (gm_N (by assumption)) rfl rfl hid ?_
    refine gz_aaload (pc := 33) cx qd_N_begin_33 (by first | exact gm_tb (by assumption) | exact gm_ns | exact gm_cf | exact gm_w (by assumption) | exact gm_nw (by assumption) | exact gm_rs (by assumption) | exact gm_M (by assumption) | exact gm_R (by assumption) (by assumption) | exact gm_za (by decide) (by decide)) rfl ⟨by decide, by decide, rfl⟩ (hst _ _ _ rfl) rfl hi (by omega) ?_
    refine gz_iconst (v := 1) (pc := 34) cx qd_N_begin_34 (by decide) ?_
    refine gz_iconst (v := 0) (pc := 35) cx qd_N_begin_35 (by decide) ?_
    refine gz_iload_n (pc := 36) cx qd_N_begin_36 rfl rfl ?_
    refine gz_callV (pc := 37) cx qv_N_39 qd_N_begin_37 (gc_E_become hi hi) (by decide) rfl (gm_E (by assumption) (by assumption)) rfl rfl rfl rfl (Nat.le_of_ble_eq_true rfl) ⟨Nat.zero_le _, Nat.zero_le _⟩ ?_
    rintro _ _ ⟨rfl, rfl⟩
    obtain ⟨c0, f0⟩ := hc.become (i := i) (j := i) 1 0 w
    obtain ⟨c1, f1⟩ := c0.N (i := i) (f := 5) (by decide) (by decide) (by decide) (1)
    obtain ⟨c2, f2⟩ := c1.N (i := i) (f := 6) (by decide) (by decide) (by decide) (w)
    obtain ⟨c3, f3⟩ := c2.N (i := i) (f := 7) (by decide) (by decide) (by decide) (0)
    obtain ⟨c4, f4⟩ := c3.noRelay (i := i) hi
    obtain ⟨c5, f5⟩ := c4.N (i := i) (f := 9) (by decide) (by decide) (by decide) (2)
    obtain ⟨c6, f6⟩ := c5.N (i := i) (f := 10) (by decide) (by decide) (by decide) (0)
    obtain ⟨c7, f7⟩ := c6.N (i := i) (f := 11) (by decide) (by decide) (by decide) (-1)
    obtain ⟨c8, f8⟩ := c7.N (i := i) (f := 12) (by decide) (by decide) (by decide) (nI i)
    obtain ⟨c9, f9⟩ := c8.N (i := i) (f := 13) (by decide) (by decide) (by decide) (0)
    obtain ⟨c10, f10⟩ := c9.N (i := i) (f := 14) (by decide) (by decide) (by decide) (0)
    obtain ⟨c11, f11⟩ := c10.N (i := i) (f := 15) (by decide) (by decide) (by decide) (0)
    obtain ⟨c12, f12⟩ := c11.N (i := i) (f := 16) (by decide) (by decide) (by decide) (0)
    obtain ⟨c13, f13⟩ := c12.N (i := i) (f := 17) (by decide) (by decide) (by decide) (nI i)
    refine gz_aload_n (pc := 40) cx qd_N_begin_40 rfl rfl ?_
    refine gz_iconst (v := 1) (pc := 41) cx qd_N_begin_41 (by decide) ?_
    refine gz_putI (pc := 42) cx qp_N_43 qd_N_begin_42 (gm_N (by assumption)) rfl rfl ⟨by decide, by decide⟩ (fun h => nomatch h) ?_
    refine gz_aload_n (pc := 45) cx qd_N_begin_45 rfl rfl ?_
    refine gz_iload_n (pc := 46) cx qd_N_begin_46 rfl rfl ?_
    refine gz_putI (pc := 47) cx qp_N_47 qd_N_begin_47 (gm_N (by assumption)) rfl rfl ⟨rfl, rfl⟩ (fun h => nomatch h) ?_
    refine gz_aload_n (pc := 50) cx qd_N_begin_50 rfl rfl ?_
    refine gz_iconst (v := 0) (pc := 51) cx qd_N_begin_51 (by decide) ?_
    refine gz_putI (pc := 52) cx qp_N_50 qd_N_begin_52 (gm_N (by assumption)) rfl rfl ⟨rfl, rfl⟩ (fun h => nomatch h) ?_
    refine gz_aload_n (pc := 55) cx qd_N_begin_55 rfl rfl ?_
    refine gz_iconst (v := 0) (pc := 56) cx qd_N_begin_56 (by decide) ?_
    refine gz_putI (pc := 57) cx qp_N_53 qd_N_begin_57 (gm_N (by assumption)) rfl rfl ⟨rfl, rfl⟩ (fun h => nomatch h) ?_
    refine gz_aload_n (pc := 60) cx qd_N_begin_60 rfl rfl ?_
    refine gz_iconst (v := 2) (pc := 61) cx qd_N_begin_61 (by decide) ?_
    refine gz_putI (pc := 62) cx qp_N_56 qd_N_begin_62 (gm_N (by assumption)) rfl rfl ⟨rfl, rfl⟩ (fun h => nomatch h) ?_
    refine gz_aload_n (pc := 65) cx qd_N_begin_65 rfl rfl ?_
    refine gz_iconst (v := 0) (pc := 66) cx qd_N_begin_66 (by decide) ?_
    refine gz_putI (pc := 67) cx qp_N_59 qd_N_begin_67 (gm_N (by assumption)) rfl rfl ⟨rfl, rfl⟩ (fun h => nomatch h) ?_
    refine gz_aload_n (pc := 70) cx qd_N_begin_70 rfl rfl ?_
    refine gz_iconst (v := -1) (pc := 71) cx qd_N_begin_71 (by decide) ?_
    refine gz_putI (pc := 72) cx qp_N_62 qd_N_begin_72 (gm_N (by assumption)) rfl rfl ⟨rfl, rfl⟩ (fun h => nomatch h) ?_
    refine gz_aload_n (pc := 75) cx qd_N_begin_75 rfl rfl ?_
    refine gz_aload_n (pc := 76) cx qd_N_begin_76 rfl rfl ?_
    refine gz_getV (pc := 77) cx qf_N_17 qd_N_begin_77 (gm_N (by assumption)) rfl rfl (c7.1.2.2.2.1 i hi).1 ?_
    refine gz_putI (pc := 80) cx qp_N_65 qd_N_begin_80 (gm_N (by assumption)) rfl rfl ⟨rfl, rfl⟩ (fun h => nomatch h) ?_
    refine gz_aload_n (pc := 83) cx qd_N_begin_83 rfl rfl ?_
    refine gz_iconst (v := 0) (pc := 84) cx qd_N_begin_84 (by decide) ?_
    refine gz_putI (pc := 85) cx qp_N_68 qd_N_begin_85 (gm_N (by assumption)) rfl rfl ⟨rfl, rfl⟩ (fun h => nomatch h) ?_
    refine gz_aload_n (pc := 88) cx qd_N_begin_88 rfl rfl ?_
    refine gz_iconst (v := 0) (pc := 89) cx qd_N_begin_89 (by decide) ?_
    refine gz_putI (pc := 90) cx qp_N_71 qd_N_begin_90 (gm_N (by assumption)) rfl rfl ⟨by decide, by decide⟩ (fun h => nomatch h) ?_
    refine gz_aload_n (pc := 93) cx qd_N_begin_93 rfl rfl ?_
    refine gz_iconst (v := 0) (pc := 94) cx qd_N_begin_94 (by decide) ?_
    refine gz_putI (pc := 95) cx qp_N_74 qd_N_begin_95 (gm_N (by assumption)) rfl rfl ⟨rfl, rfl⟩ (fun h => nomatch h) ?_
    refine gz_aload_n (pc := 98) cx qd_N_begin_98 rfl rfl ?_
    refine gz_iconst (v := 0) (pc := 99) cx qd_N_begin_99 (by decide) ?_
    refine gz_putI (pc := 100) cx qp_N_77 qd_N_begin_100 (gm_N (by assumption)) rfl rfl ⟨rfl, rfl⟩ (fun h => nomatch h) ?_
    refine gz_aload_n (pc := 103) cx qd_N_begin_103 rfl rfl ?_
    refine gz_aload_n (pc := 104) cx qd_N_begin_104 rfl rfl ?_
    refine gz_getV (pc := 105) cx qf_N_17 qd_N_begin_105 (gm_N (by assumption)) rfl rfl (c12.1.2.2.2.1 i hi).1 ?_
    refine gz_putI (pc := 108) cx qp_N_80 qd_N_begin_108 (gm_N (by assumption)) rfl rfl ⟨rfl, rfl⟩ (fun h => nomatch h) ?_
    refine gz_return (pc := 111) cx hr qd_N_begin_111 ?_
    exact ⟨rfl, c13, (((((((((((((hf.tr f0).tr f1).tr f2).tr f3).tr f4).tr f5).tr f6).tr f7).tr f8).tr f9).tr f10).tr f11).tr f12).tr f13⟩
  · intro k hk ih Sk hc hf
    obtain ⟨hid, hcnt⟩ := hc.1.2.2.2.1 i hi
    have hst := hc.1.1
    refine gz_iload_n (pc := 2) cx qd_N_begin_2 rfl rfl ?_
    refine gz_aload_n (pc := 3) cx qd_N_begin_3 rfl rfl ?_
    refine gz_getV (pc := 4) cx qf_N_21 qd_N_begin_4 (gm_N (by assumption)) rfl rfl hcnt ?_
    refine gz_icmp_ge (tgt := 25) (pc := 7) cx qd_N_begin_7 (by decide) (fun h7 => absurd h7 (nI_ge hk (by omega))) (fun _ => ?_)
    refine gz_aload_n (pc := 10) cx qd_N_begin_10 rfl rfl ?_
    refine gz_getR (pc := 11) cx qf_N_30 qd_N_begin_11 (gm_N (by assumption)) rfl rfl (hst _ _ _ rfl) ?_
    refine gz_iload_n (pc := 14) cx qd_N_begin_14 rfl rfl ?_
    refine gz_aaload (pc := 15) cx qd_N_begin_15 (by first | exact gm_tb (by assumption) | exact gm_ns | exact gm_cf | exact gm_w (by assumption) | exact gm_nw (by assumption) | exact gm_rs (by assumption) | exact gm_M (by assumption) | exact gm_R (by assumption) (by assumption) | exact gm_za (by decide) (by decide)) rfl ⟨by decide, by decide, rfl⟩ (hst _ _ _ rfl) rfl (by assumption) (by omega) ?_
    refine gz_callV (pc := 16) cx qv_N_36 qd_N_begin_16 (gc_E_forget hi hk) (by decide) rfl (gm_E (by assumption) (by assumption)) rfl rfl rfl rfl (Nat.le_of_ble_eq_true rfl) ⟨Nat.zero_le _, Nat.zero_le _⟩ ?_
    rintro _ _ ⟨rfl, rfl⟩
    refine gz_iinc (pc := 19) cx qd_N_begin_19 rfl (g_inc k) ?_
    refine gz_goto (tgt := 2) (pc := 22) cx qd_N_begin_22 (by decide) ?_
    obtain ⟨c1, f1⟩ := hc.E (i := i) (j := k) (f := 0) (by decide) 0
    obtain ⟨c2, f2⟩ := c1.E (i := i) (j := k) (f := 1) (by decide) 0
    obtain ⟨c3, f3⟩ := c2.E (i := i) (j := k) (f := 2) (by decide) 0
    obtain ⟨c4, f4⟩ := c3.E (i := i) (j := k) (f := 3) (by decide) 0
    obtain ⟨c5, f5⟩ := c4.E (i := i) (j := k) (f := 4) (by decide) 0
    exact ih _ c5 (((((hf.tr f1).tr f2).tr f3).tr f4).tr f5)
theorem gc_N_sayFarewell {G : gG} {la : Launch} {M : mM} {i0 : Nat} {kc : Option (Nat × List Int32)} {S : gS} {i : Nat} {w : Int32} (hi : i < G.1) (h : CR G M 0 i0 kc S) : gM G la qy_N_sayFarewell qw_N_sayFarewell 3 0 0 (gTt G) (gTt G) [.inr (some (7, i, 0)), .inl w] S (fun v S' => v = none ∧ CR G (mFare G.1 M i w) 0 i0 kc S' ∧ gFr S S') := by
  refine gM_of (cc := qc_N_sayFarewell) (maxL := 3) (by decide) rfl (Nat.le_of_ble_eq_true rfl) ?_
  intro E cx hr hnm hcz hsz hEl
  subst hEl
  have h8 := h.1.2.1
  obtain ⟨hid, hcnt⟩ := h.1.2.2.2.1 i hi
  have hst := h.1.1
  have e1 := h.2.1 i i 1 hi hi (by decide)
  obtain ⟨c0, f0⟩ := h.become (i := i) (j := i) 3 (M.1 1 i i) w
  suffices hh : ∀ k, k ≤ G.1 → ∀ Sk, CR G (mFareF G.1 i k (mBecome M i i 3 (M.1 1 i i) w)) 0 i0 kc Sk → gFr S Sk → gZ G E 0 0 (gEnd G E 0 0 (gTt G) (fun v S' => v = none ∧ CR G (mFare G.1 M i w) 0 i0 kc S' ∧ gFr S S')) (gTt G) 28 [some (.inr (some (7, i, 0))), some (.inl w), some (.inl (nI k))] [] Sk by
    refine gz_aload_n (pc := 0) cx qd_N_sayFarewell_0 rfl rfl ?_
    refine gz_getR (pc := 1) cx qf_N_30 qd_N_sayFarewell_1 (gm_N (by assumption)) rfl rfl (hst _ _ _ rfl) ?_
    refine gz_aload_n (pc := 4) cx qd_N_sayFarewell_4 rfl rfl ?_
    refine gz_getV (pc := 5) cx qf_N_17 qd_N_sayFarewell_5 (gm_N (by assumption)) rfl rfl hid ?_
    refine gz_aaload (pc := 8) cx qd_N_sayFarewell_8 (by first | exact gm_tb (by assumption) | exact gm_ns | exact gm_cf | exact gm_w (by assumption) | exact gm_nw (by assumption) | exact gm_rs (by assumption) | exact gm_M (by assumption) | exact gm_R (by assumption) (by assumption) | exact gm_za (by decide) (by decide)) rfl ⟨by decide, by decide, rfl⟩ (hst _ _ _ rfl) rfl hi (by omega) ?_
    refine gz_iconst (v := 3) (pc := 9) cx qd_N_sayFarewell_9 (by decide) ?_
    refine gz_aload_n (pc := 10) cx qd_N_sayFarewell_10 rfl rfl ?_
    refine gz_getR (pc := 11) cx qf_N_30 qd_N_sayFarewell_11 (gm_N (by assumption)) rfl rfl (hst _ _ _ rfl) ?_
    refine gz_aload_n (pc := 14) cx qd_N_sayFarewell_14 rfl rfl ?_
    refine gz_getV (pc := 15) cx qf_N_17 qd_N_sayFarewell_15 (gm_N (by assumption)) rfl rfl hid ?_
    refine gz_aaload (pc := 18) cx qd_N_sayFarewell_18 (by first | exact gm_tb (by assumption) | exact gm_ns | exact gm_cf | exact gm_w (by assumption) | exact gm_nw (by assumption) | exact gm_rs (by assumption) | exact gm_M (by assumption) | exact gm_R (by assumption) (by assumption) | exact gm_za (by decide) (by decide)) rfl ⟨by decide, by decide, rfl⟩ (hst _ _ _ rfl) rfl hi (by omega) ?_
    refine gz_getV (pc := 19) cx qf_N_83 qd_N_sayFarewell_19 (gm_E (by assumption) (by assumption)) rfl rfl e1 ?_
    refine gz_iload_n (pc := 22) cx qd_N_sayFarewell_22 rfl rfl ?_
    refine gz_callV (pc := 23) cx qv_N_39 qd_N_sayFarewell_23 (gc_E_become hi hi) (by decide) rfl (gm_E (by assumption) (by assumption)) rfl rfl rfl rfl (Nat.le_of_ble_eq_true rfl) ⟨Nat.zero_le _, Nat.zero_le _⟩ ?_
    rintro _ _ ⟨rfl, rfl⟩
    refine gz_iconst (v := 0) (pc := 26) cx qd_N_sayFarewell_26 (by decide) ?_
    refine gz_istore_n (pc := 27) cx qd_N_sayFarewell_27 rfl (Nat.le_of_ble_eq_true rfl) ?_
    exact hh 0 (Nat.zero_le _) _ c0 f0
  refine g_upto ?_ ?_
  · intro Sk hc hf
    obtain ⟨hid, hcnt⟩ := hc.1.2.2.2.1 i hi
    refine gz_iload_n (pc := 28) cx qd_N_sayFarewell_28 rfl rfl ?_
    refine gz_aload_n (pc := 29) cx qd_N_sayFarewell_29 rfl rfl ?_
    refine gz_getV (pc := 30) cx qf_N_21 qd_N_sayFarewell_30 (gm_N (by assumption)) rfl rfl hcnt ?_
    refine gz_icmp_ge (tgt := 72) (pc := 33) cx qd_N_sayFarewell_33 (by decide) (fun _ => ?_) (fun h33 => absurd (Int32.le_refl _) h33)
    refine gz_return (pc := 72) cx hr qd_N_sayFarewell_72 ?_
    exact ⟨rfl, hc, hf⟩
  · intro k hk ih Sk hc hf
    obtain ⟨hid, hcnt⟩ := hc.1.2.2.2.1 i hi
    have hst := hc.1.1
    have e0 := hc.2.1 i k 0 hi hk (by decide)
    have hmi : nI k = nI i ↔ k = i := nI_eq (by omega) (by omega)
    refine gz_iload_n (pc := 28) cx qd_N_sayFarewell_28 rfl rfl ?_
    refine gz_aload_n (pc := 29) cx qd_N_sayFarewell_29 rfl rfl ?_
    refine gz_getV (pc := 30) cx qf_N_21 qd_N_sayFarewell_30 (gm_N (by assumption)) rfl rfl hcnt ?_
    refine gz_icmp_ge (tgt := 72) (pc := 33) cx qd_N_sayFarewell_33 (by decide) (fun h33 => absurd h33 (nI_ge hk (by omega))) (fun _ => ?_)
    refine gz_iload_n (pc := 36) cx qd_N_sayFarewell_36 rfl rfl ?_
    refine gz_aload_n (pc := 37) cx qd_N_sayFarewell_37 rfl rfl ?_
    refine gz_getV (pc := 38) cx qf_N_17 qd_N_sayFarewell_38 (gm_N (by assumption)) rfl rfl hid ?_
    refine gz_icmp_eq (tgt := 66) (pc := 41) cx qd_N_sayFarewell_41 (by decide) (fun h41 => ?_) (fun h41 => ?_)
    · refine gz_iinc (pc := 66) cx qd_N_sayFarewell_66 rfl (g_inc k) ?_
      refine gz_goto (tgt := 28) (pc := 69) cx qd_N_sayFarewell_69 (by decide) ?_
      refine ih _ ?_ hf
      show CR G (if k ≠ i ∧ _ then _ else _) _ _ _ _
      rw [if_neg (fun q => q.1 (hmi.mp h41))]
      exact hc
    · refine gz_aload_n (pc := 44) cx qd_N_sayFarewell_44 rfl rfl ?_
      refine gz_getR (pc := 45) cx qf_N_30 qd_N_sayFarewell_45 (gm_N (by assumption)) rfl rfl (hst _ _ _ rfl) ?_
      refine gz_iload_n (pc := 48) cx qd_N_sayFarewell_48 rfl rfl ?_
      refine gz_aaload (pc := 49) cx qd_N_sayFarewell_49 (by first | exact gm_tb (by assumption) | exact gm_ns | exact gm_cf | exact gm_w (by assumption) | exact gm_nw (by assumption) | exact gm_rs (by assumption) | exact gm_M (by assumption) | exact gm_R (by assumption) (by assumption) | exact gm_za (by decide) (by decide)) rfl ⟨by decide, by decide, rfl⟩ (hst _ _ _ rfl) rfl (by assumption) (by omega) ?_
      refine gz_getV (pc := 50) cx qf_N_86 qd_N_sayFarewell_50 (gm_E (by assumption) (by assumption)) rfl rfl e0 ?_
      refine gz_iconst (v := 1) (pc := 53) cx qd_N_sayFarewell_53 (by decide) ?_
      refine gz_icmp_ne (tgt := 66) (pc := 54) cx qd_N_sayFarewell_54 (by decide) (fun h54 => ?_) (fun h54 => ?_)
      · refine gz_iinc (pc := 66) cx qd_N_sayFarewell_66 rfl (g_inc k) ?_
        refine gz_goto (tgt := 28) (pc := 69) cx qd_N_sayFarewell_69 (by decide) ?_
        refine ih _ ?_ hf
        show CR G (if k ≠ i ∧ _ then _ else _) _ _ _ _
        rw [if_neg (fun q => h54 q.2)]
        exact hc
      · refine gz_aload_n (pc := 57) cx qd_N_sayFarewell_57 rfl rfl ?_
        refine gz_iconst (v := 5) (pc := 58) cx qd_N_sayFarewell_58 (by decide) ?_
        refine gz_iload_n (pc := 59) cx qd_N_sayFarewell_59 rfl rfl ?_
        refine gz_iconst (v := 0) (pc := 60) cx qd_N_sayFarewell_60 (by decide) ?_
        refine gz_iconst (v := 0) (pc := 61) cx qd_N_sayFarewell_61 (by decide) ?_
        refine gz_iconst (v := 0) (pc := 62) cx qd_N_sayFarewell_62 (by decide) ?_
        refine gz_callV (pc := 63) cx qv_N_89 qd_N_sayFarewell_63 (gc_send hi hc (Or.inl rfl)) (by decide) rfl (gm_N (by assumption)) rfl rfl rfl rfl (Nat.le_of_ble_eq_true rfl) ⟨Nat.zero_le _, Nat.zero_le _⟩ ?_
        rintro _ S' ⟨rfl, c2, f2⟩
        refine gz_iinc (pc := 66) cx qd_N_sayFarewell_66 rfl (g_inc k) ?_
        refine gz_goto (tgt := 28) (pc := 69) cx qd_N_sayFarewell_69 (by decide) ?_
        refine ih _ ?_ (hf.tr f2)
        show CR G (if k ≠ i ∧ _ then _ else _) _ _ _ _
        rw [if_pos ⟨fun q => h41 (hmi.mpr q), h54⟩]
        exact c2
theorem gc_N_countQueued {G : gG} {la : Launch} {M : mM} {p i0 : Nat} {kc : Option (Nat × List Int32)} {S : gS} {i : Nat} (hi : i < G.1) (h : CR G M p i0 kc S) : gM G la qy_N_countQueued qw_N_countQueued 0 0 0 (gTt G) (gTt G) [.inr (some (7, i, 0))] S (fun v S' => v = some (.inl (mNewsN M i G.1)) ∧ S' = S) := by
  refine gM_of (cc := qc_N_countQueued) (maxL := 3) (by decide) rfl (Nat.le_of_ble_eq_true rfl) ?_
  intro E cx hr hnm hcz hsz hEl
  subst hEl
  have h8 := h.1.2.1
  obtain ⟨hid, hcnt⟩ := h.1.2.2.2.1 i hi
  have hst := h.1.1
  suffices hh : ∀ k, k ≤ G.1 → (fun k => gZ G E 0 0 (gEnd G E 0 0 (gTt G) (fun v S' => v = some (.inl (mNewsN M i G.1)) ∧ S' = S)) (gTt G) 4 [some (.inr (some (7, i, 0))), some (.inl (mNewsN M i k)), some (.inl (nI k))] [] S) k by
    refine gz_iconst (v := 0) (pc := 0) cx qd_N_countQueued_0 (by decide) ?_
    refine gz_istore_n (pc := 1) cx qd_N_countQueued_1 rfl (Nat.le_of_ble_eq_true rfl) ?_
    refine gz_iconst (v := 0) (pc := 2) cx qd_N_countQueued_2 (by decide) ?_
    refine gz_istore_n (pc := 3) cx qd_N_countQueued_3 rfl (Nat.le_of_ble_eq_true rfl) ?_
    exact hh 0 (Nat.zero_le _)
  refine g_upto ?_ ?_
  · refine gz_iload_n (pc := 4) cx qd_N_countQueued_4 rfl rfl ?_
    refine gz_aload_n (pc := 5) cx qd_N_countQueued_5 rfl rfl ?_
    refine gz_getV (pc := 6) cx qf_N_21 qd_N_countQueued_6 (gm_N (by assumption)) rfl rfl hcnt ?_
    refine gz_icmp_ge (tgt := 33) (pc := 9) cx qd_N_countQueued_9 (by decide) (fun _ => ?_) (fun h9 => absurd (Int32.le_refl _) h9)
    refine gz_iload_n (pc := 33) cx qd_N_countQueued_33 rfl rfl ?_
    refine gz_ireturn (pc := 34) cx hr rfl qd_N_countQueued_34 ?_
    exact ⟨rfl, rfl⟩
  · intro k hk ih
    have e4 := h.2.1 i k 4 hi hk (by decide)
    refine gz_iload_n (pc := 4) cx qd_N_countQueued_4 rfl rfl ?_
    refine gz_aload_n (pc := 5) cx qd_N_countQueued_5 rfl rfl ?_
    refine gz_getV (pc := 6) cx qf_N_21 qd_N_countQueued_6 (gm_N (by assumption)) rfl rfl hcnt ?_
    refine gz_icmp_ge (tgt := 33) (pc := 9) cx qd_N_countQueued_9 (by decide) (fun h9 => absurd h9 (nI_ge hk (by omega))) (fun _ => ?_)
    refine gz_aload_n (pc := 12) cx qd_N_countQueued_12 rfl rfl ?_
    refine gz_getR (pc := 13) cx qf_N_30 qd_N_countQueued_13 (gm_N (by assumption)) rfl rfl (hst _ _ _ rfl) ?_
    refine gz_iload_n (pc := 16) cx qd_N_countQueued_16 rfl rfl ?_
    refine gz_aaload (pc := 17) cx qd_N_countQueued_17 (by first | exact gm_tb (by assumption) | exact gm_ns | exact gm_cf | exact gm_w (by assumption) | exact gm_nw (by assumption) | exact gm_rs (by assumption) | exact gm_M (by assumption) | exact gm_R (by assumption) (by assumption) | exact gm_za (by decide) (by decide)) rfl ⟨by decide, by decide, rfl⟩ (hst _ _ _ rfl) rfl (by assumption) (by omega) ?_
    refine gz_getV (pc := 18) cx qf_N_122 qd_N_countQueued_18 (gm_E (by assumption) (by assumption)) rfl rfl e4 ?_
    refine gz_if_le (tgt := 27) (pc := 21) cx qd_N_countQueued_21 (by decide) (fun h21 => ?_) (fun h21 => ?_)
    · refine gz_iinc (pc := 27) cx qd_N_countQueued_27 rfl (g_inc k) ?_
      refine gz_goto (tgt := 4) (pc := 30) cx qd_N_countQueued_30 (by decide) ?_
      refine g_swap ?_ ih
      show gZ _ _ _ _ _ _ _ [_, some (.inl (if M.1 4 i k ≤ 0 then mNewsN M i k else mNewsN M i k + 1)), _] _ _ = _
      rw [if_pos h21]
      rfl
    · refine gz_iinc (pc := 24) cx qd_N_countQueued_24 rfl rfl ?_
      refine gz_iinc (pc := 27) cx qd_N_countQueued_27 rfl (g_inc k) ?_
      refine gz_goto (tgt := 4) (pc := 30) cx qd_N_countQueued_30 (by decide) ?_
      refine g_swap ?_ ih
      show gZ _ _ _ _ _ _ _ [_, some (.inl (if M.1 4 i k ≤ 0 then mNewsN M i k else mNewsN M i k + 1)), _] _ _ = _
      rw [if_neg h21]
      rfl
theorem gc_N_tell {G : gG} {la : Launch} {M : mM} {p i0 : Nat} {kc : Option (Nat × List Int32)} {S : gS} {i : Nat} {x : Int32} (hi : i < G.1) (h : CR G M p i0 kc S) : gM G la qy_N_tell qw_N_tell 1 0 0 (gTt G) (gTt G) [.inr (some (7, i, 0)), .inl x] S (fun v S' => v = some (.inl (mTellN G.1 M i x)) ∧ S' = S) := by
  refine gM_of (cc := qc_N_tell) (maxL := 2) (by decide) rfl (Nat.le_of_ble_eq_true rfl) ?_
  intro E cx hr hnm hcz hsz hEl
  subst hEl
  have h8 := h.1.2.1
  obtain ⟨hid, hcnt⟩ := h.1.2.2.2.1 i hi
  have hst := h.1.1
  have hI := hi
  have e5 : S.1 (7, i, 0) 5 = M.1 15 i 0 := h.2.2.1 i 5 hi (by decide) (by decide) (by decide)
  have e7 : S.1 (7, i, 0) 7 = M.1 17 i 0 := h.2.2.1 i 7 hi (by decide) (by decide) (by decide)
  have e9 : S.1 (7, i, 0) 9 = M.1 19 i 0 := h.2.2.1 i 9 hi (by decide) (by decide) (by decide)
  have e10 : S.1 (7, i, 0) 10 = M.1 20 i 0 := h.2.2.1 i 10 hi (by decide) (by decide) (by decide)
  have e11 : S.1 (7, i, 0) 11 = M.1 21 i 0 := h.2.2.1 i 11 hi (by decide) (by decide) (by decide)
  have e13 : S.1 (7, i, 0) 13 = M.1 23 i 0 := h.2.2.1 i 13 hi (by decide) (by decide) (by decide)
  have e14 : S.1 (7, i, 0) 14 = M.1 24 i 0 := h.2.2.1 i 14 hi (by decide) (by decide) (by decide)
  have e1 := h.2.1 i i 1 hi hi (by decide)
  have e8 := (h.2.2.2.1 i hi).choose_spec.2.1
  refine gz_iload_n (pc := 0) cx qd_N_tell_0 rfl rfl ?_
  refine gz_switch (pc := 1) cx 9 (fun i => [56, 69, 82, 87, 92, 97, 110, 115, 120, 125].getD i 0) 130 qd_N_tell_1 (by decide) (by intro i hi; match i, hi with
    | 0, _ => exact ⟨_, rfl, by decide⟩
    | 1, _ => exact ⟨_, rfl, by decide⟩
    | 2, _ => exact ⟨_, rfl, by decide⟩
    | 3, _ => exact ⟨_, rfl, by decide⟩
    | 4, _ => exact ⟨_, rfl, by decide⟩
    | 5, _ => exact ⟨_, rfl, by decide⟩
    | 6, _ => exact ⟨_, rfl, by decide⟩
    | 7, _ => exact ⟨_, rfl, by decide⟩
    | 8, _ => exact ⟨_, rfl, by decide⟩
    | 9, _ => exact ⟨_, rfl, by decide⟩
    | i + 10, hi => exact absurd hi (by omega)) (by decide) (fun i hi hx => ?_) (fun hx => ?_)
  · match i, hi with
    | 0, _ =>
      subst hx
      refine gz_aload_n (pc := 56) cx qd_N_tell_56 rfl rfl ?_
      refine gz_getV (pc := 57) cx qf_N_43 qd_N_tell_57 (gm_N (by assumption)) rfl rfl e5 ?_
      refine gz_if_eq (tgt := 67) (pc := 60) cx qd_N_tell_60 (by decide) (fun h60 => ?_) (fun h60 => ?_)
      · refine gz_iconst (v := 0) (pc := 67) cx qd_N_tell_67 (by decide) ?_
        refine gz_ireturn (pc := 68) cx hr rfl qd_N_tell_68 ?_
        refine ⟨?_, rfl⟩
        unfold mTellN
        rw [if_pos (show nI 0 = (0 : Int32) from rfl)]
        first | rw [if_pos h60] | rw [if_neg h60]
      · refine gz_iconst (v := 1) (pc := 63) cx qd_N_tell_63 (by decide) ?_
        refine gz_goto (tgt := 68) (pc := 64) cx qd_N_tell_64 (by decide) ?_
        refine gz_ireturn (pc := 68) cx hr rfl qd_N_tell_68 ?_
        refine ⟨?_, rfl⟩
        unfold mTellN
        rw [if_pos (show nI 0 = (0 : Int32) from rfl)]
        first | rw [if_pos h60] | rw [if_neg h60]
    | 1, _ =>
      subst hx
      refine gz_aload_n (pc := 69) cx qd_N_tell_69 rfl rfl ?_
      refine gz_getR (pc := 70) cx qf_N_30 qd_N_tell_70 (gm_N hI) rfl rfl (hst _ _ _ rfl) ?_
      refine gz_aload_n (pc := 73) cx qd_N_tell_73 rfl rfl ?_
      refine gz_getV (pc := 74) cx qf_N_17 qd_N_tell_74 (gm_N (by assumption)) rfl rfl hid ?_
      refine gz_aaload (pc := 77) cx qd_N_tell_77 (gm_tb hI) rfl ⟨by decide, by decide, rfl⟩ (hst _ _ _ rfl) rfl hI (by omega) ?_
      refine gz_getV (pc := 78) cx qf_N_83 qd_N_tell_78 (gm_E hI hI) rfl rfl e1 ?_
      refine gz_ireturn (pc := 81) cx hr rfl qd_N_tell_81 ?_
      exact ⟨rfl, rfl⟩
    | 2, _ =>
      subst hx
      refine gz_aload_n (pc := 82) cx qd_N_tell_82 rfl rfl ?_
      refine gz_getV (pc := 83) cx qf_N_50 qd_N_tell_83 (gm_N (by assumption)) rfl rfl e7 ?_
      refine gz_ireturn (pc := 86) cx hr rfl qd_N_tell_86 ?_
      exact ⟨rfl, rfl⟩
    | 3, _ =>
      subst hx
      refine gz_aload_n (pc := 87) cx qd_N_tell_87 rfl rfl ?_
      refine gz_getV (pc := 88) cx qf_N_62 qd_N_tell_88 (gm_N (by assumption)) rfl rfl e11 ?_
      refine gz_ireturn (pc := 91) cx hr rfl qd_N_tell_91 ?_
      exact ⟨rfl, rfl⟩
    | 4, _ =>
      subst hx
      refine gz_aload_n (pc := 92) cx qd_N_tell_92 rfl rfl ?_
      refine gz_getV (pc := 93) cx qf_N_68 qd_N_tell_93 (gm_N (by assumption)) rfl rfl e13 ?_
      refine gz_ireturn (pc := 96) cx hr rfl qd_N_tell_96 ?_
      exact ⟨rfl, rfl⟩
    | 5, _ =>
      subst hx
      refine gz_aload_n (pc := 97) cx qd_N_tell_97 rfl rfl ?_
      refine gz_getV (pc := 98) cx qf_N_71 qd_N_tell_98 (gm_N (by assumption)) rfl rfl e14 ?_
      refine gz_if_eq (tgt := 108) (pc := 101) cx qd_N_tell_101 (by decide) (fun h101 => ?_) (fun h101 => ?_)
      · refine gz_iconst (v := 0) (pc := 108) cx qd_N_tell_108 (by decide) ?_
        refine gz_ireturn (pc := 109) cx hr rfl qd_N_tell_109 ?_
        refine ⟨?_, rfl⟩
        unfold mTellN
        rw [if_neg (by decide), if_neg (by decide), if_neg (by decide), if_neg (by decide), if_neg (by decide), if_pos (show nI 5 = (5 : Int32) from rfl)]
        first | rw [if_pos h101] | rw [if_neg h101]
      · refine gz_iconst (v := 1) (pc := 104) cx qd_N_tell_104 (by decide) ?_
        refine gz_goto (tgt := 109) (pc := 105) cx qd_N_tell_105 (by decide) ?_
        refine gz_ireturn (pc := 109) cx hr rfl qd_N_tell_109 ?_
        refine ⟨?_, rfl⟩
        unfold mTellN
        rw [if_neg (by decide), if_neg (by decide), if_neg (by decide), if_neg (by decide), if_neg (by decide), if_pos (show nI 5 = (5 : Int32) from rfl)]
        first | rw [if_pos h101] | rw [if_neg h101]
    | 6, _ =>
      subst hx
      refine gz_aload_n (pc := 110) cx qd_N_tell_110 rfl rfl ?_
      refine gz_getV (pc := 111) cx qf_N_59 qd_N_tell_111 (gm_N (by assumption)) rfl rfl e10 ?_
      refine gz_ireturn (pc := 114) cx hr rfl qd_N_tell_114 ?_
      exact ⟨rfl, rfl⟩
    | 7, _ =>
      subst hx
      refine gz_aload_n (pc := 115) cx qd_N_tell_115 rfl rfl ?_
      refine gz_getV (pc := 116) cx qf_N_56 qd_N_tell_116 (gm_N (by assumption)) rfl rfl e9 ?_
      refine gz_ireturn (pc := 119) cx hr rfl qd_N_tell_119 ?_
      exact ⟨rfl, rfl⟩
    | 8, _ =>
      subst hx
      refine gz_aload_n (pc := 120) cx qd_N_tell_120 rfl rfl ?_
      refine gz_callV (pc := 121) cx qv_N_237 qd_N_tell_121 (gc_N_countQueued hI h) (by decide) rfl (gm_N (by assumption)) rfl rfl rfl rfl (Nat.le_of_ble_eq_true rfl) ⟨Nat.zero_le _, Nat.zero_le _⟩ ?_
      rintro _ S' ⟨rfl, hS'⟩
      subst hS'
      refine gz_ireturn (pc := 124) cx hr rfl qd_N_tell_124 ?_
      exact ⟨rfl, rfl⟩
    | 9, _ =>
      subst hx
      refine gz_aload_n (pc := 125) cx qd_N_tell_125 rfl rfl ?_
      refine gz_getV (pc := 126) cx qf_N_53 qd_N_tell_126 (gm_N (by assumption)) rfl rfl e8 ?_
      refine gz_ireturn (pc := 129) cx hr rfl qd_N_tell_129 ?_
      exact ⟨rfl, rfl⟩
    | i + 10, hi => exact absurd hi (by omega)
  · refine gz_iconst (v := 0) (pc := 130) cx qd_N_tell_130 (by decide) ?_
    refine gz_ireturn (pc := 131) cx hr rfl qd_N_tell_131 ?_
    have h0 : x ≠ 0 := hx 0 (by decide)
    have h1 : x ≠ 1 := hx 1 (by decide)
    have h2 : x ≠ 2 := hx 2 (by decide)
    have h3 : x ≠ 3 := hx 3 (by decide)
    have h4 : x ≠ 4 := hx 4 (by decide)
    have h5 : x ≠ 5 := hx 5 (by decide)
    have h6 : x ≠ 6 := hx 6 (by decide)
    have h7 : x ≠ 7 := hx 7 (by decide)
    have h8 : x ≠ 8 := hx 8 (by decide)
    have h9 : x ≠ 9 := hx 9 (by decide)
    exact ⟨by rw [mTellN, if_neg h0, if_neg h1, if_neg h2, if_neg h3, if_neg h4, if_neg h5, if_neg h6, if_neg h7, if_neg h8, if_neg h9], rfl⟩
