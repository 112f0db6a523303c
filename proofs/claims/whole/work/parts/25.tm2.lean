theorem mOkS_set {M : mM} {f i2 j i : Nat} {v w : Int32} (hf : f ≠ 0) : mOkS (mSet M f i2 j v) i w = mOkS M i w := by
  funext m
  unfold mOkS
  rw [mSet_ne (fun q => hf q.1.symm)]
theorem mAskF_1 {n i f i2 j : Nat} (h4 : f ≠ 4) (h25 : f ≠ 25) : ∀ {rem k : Nat} {M : mM}, (mAskF n i rem k M).1 f i2 j = M.1 f i2 j
  | 0, _, _ => rfl
  | rem + 1, k, M => by
    rw [mAskF]
    split
    · rfl
    · split
      · rw [mAskF_1 h4 h25, mSet_ne (fun q => h25 q.1), mSend_1 h4]
      · exact mAskF_1 h4 h25
theorem gc_N_restOrProbe {G : gG} {la : Launch} {M : mM} {i0 : Nat} {kc : Option (Nat × List Int32)} {S : gS} {i : Nat} (hi : i < G.1) (h : CR G M 0 i0 kc S) (hni : isN G.1 (M.1 22 i 0)) : gM G la qy_N_restOrProbe qw_N_restOrProbe 3 0 0 (gTt G) (gTt G) [.inr (some (7, i, 0))] S (fun v S' => v = none ∧ CR G (mRest G.1 M i) 0 i0 kc S' ∧ gFr S S') := by
  refine gM_of (cc := qc_N_restOrProbe) (maxL := 2) (by decide) rfl (Nat.le_of_ble_eq_true rfl) ?_
  intro E cx hr hnm hcz hsz hEl
  subst hEl
  have h8 := h.1.2.1
  obtain ⟨b, hb, hlb⟩ := hni
  have e9 : S.1 (7, i, 0) 9 = M.1 19 i 0 := h.2.2.1 i 9 hi (by decide) (by decide) (by decide)
  obtain ⟨c1, f1⟩ := h.N (i := i) (f := 9) (by decide) (by decide) (by decide) (M.1 19 i 0 - 1)
  have hsp : mRest G.1 M i = if M.1 19 i 0 - 1 ≤ 0 then (match mNext G.1 b (mOkS M i 2) with
      | none => mSet (mSet M 19 i 0 (M.1 19 i 0 - 1)) 19 i 0 3
      | some m => mProbe G.1 (mSet M 19 i 0 (M.1 19 i 0 - 1)) i m) else mSet M 19 i 0 (M.1 19 i 0 - 1) := by
    unfold mRest
    rw [hlb, nI_clamp (by omega)]
    rfl
  have hok : mOkS (mSet M 19 i 0 (M.1 19 i 0 - 1)) i 2 = mOkS M i 2 := mOkS_set (by decide)
  have l12 : (gI S (7, i, 0) 9 (M.1 19 i 0 - 1)).1 (7, i, 0) 12 = nI b := (c1.2.2.1 i 12 hi (by decide) (by decide) (by decide)).trans ((mSet_ne (by omega)).trans hlb)
  generalize hM1 : mSet M 19 i 0 (M.1 19 i 0 - 1) = M1 at c1 hsp hok
  generalize hS1 : gI S (7, i, 0) 9 (M.1 19 i 0 - 1) = S1 at c1 f1 l12
  have r9 : S1.1 (7, i, 0) 9 = M.1 19 i 0 - 1 := by rw [← hS1]; exact if_pos ⟨rfl, rfl⟩
  refine gz_aload_n (pc := 0) cx qd_N_restOrProbe_0 rfl rfl ?_
  refine gz_dup (pc := 1) cx qd_N_restOrProbe_1 ?_
  refine gz_getV (pc := 2) cx qf_N_56 qd_N_restOrProbe_2 (gm_N (by assumption)) rfl rfl e9 ?_
  refine gz_iconst (v := 1) (pc := 5) cx qd_N_restOrProbe_5 (by decide) ?_
  refine gz_isub (pc := 6) cx qd_N_restOrProbe_6 ?_
  refine gz_putI (pc := 7) cx qp_N_56 qd_N_restOrProbe_7 (gm_N (by assumption)) rfl rfl ⟨rfl, rfl⟩ (fun h => nomatch h) ?_
  rw [hS1]
  refine gz_aload_n (pc := 10) cx qd_N_restOrProbe_10 rfl rfl ?_
  refine gz_getV (pc := 11) cx qf_N_56 qd_N_restOrProbe_11 (gm_N (by assumption)) rfl rfl r9 ?_
  refine gz_if_le (tgt := 18) (pc := 14) cx qd_N_restOrProbe_14 (by decide) (fun h14 => ?_) (fun h14 => ?_)
  · refine gz_aload_n (pc := 18) cx qd_N_restOrProbe_18 rfl rfl ?_
    refine gz_aload_n (pc := 19) cx qd_N_restOrProbe_19 rfl rfl ?_
    refine gz_getV (pc := 20) cx qf_N_65 qd_N_restOrProbe_20 (gm_N (by assumption)) rfl rfl l12 ?_
    refine gz_iconst (v := 2) (pc := 23) cx qd_N_restOrProbe_23 (by decide) ?_
    refine gz_callV (pc := 24) cx qv_N_225 qd_N_restOrProbe_24 (gc_N_nextBehind hi hb c1) (by decide) rfl (gm_N (by assumption)) rfl rfl rfl rfl (Nat.le_of_ble_eq_true rfl) ⟨Nat.zero_le _, Nat.zero_le _⟩ ?_
    rintro _ S' ⟨rfl, hS'⟩
    subst hS'
    rw [hok]
    cases hn : mNext G.1 b (mOkS M i 2) with
    | none =>
      refine gz_istore_n (pc := 27) cx qd_N_restOrProbe_27 rfl (Nat.le_of_ble_eq_true rfl) ?_
      refine gz_iload_n (pc := 28) cx qd_N_restOrProbe_28 rfl rfl ?_
      refine gz_iconst (v := -1) (pc := 29) cx qd_N_restOrProbe_29 (by decide) ?_
      refine gz_icmp_ne (tgt := 39) (pc := 30) cx qd_N_restOrProbe_30 (by decide) (fun h30 => absurd rfl h30) (fun _ => ?_)
      refine gz_aload_n (pc := 33) cx qd_N_restOrProbe_33 rfl rfl ?_
      refine gz_iconst (v := 3) (pc := 34) cx qd_N_restOrProbe_34 (by decide) ?_
      refine gz_putI (pc := 35) cx qp_N_56 qd_N_restOrProbe_35 (gm_N (by assumption)) rfl rfl ⟨rfl, rfl⟩ (fun h => nomatch h) ?_
      refine gz_return (pc := 38) cx hr qd_N_restOrProbe_38 ?_
      obtain ⟨c2, f2⟩ := c1.N (i := i) (f := 9) (by decide) (by decide) (by decide) (3)
      refine ⟨rfl, ?_, f1.tr f2⟩
      rw [hsp, if_pos h14, hn]
      exact c2
    | some m =>
      have hmn := (mNextF_lt (by omega) hn).1
      refine gz_istore_n (pc := 27) cx qd_N_restOrProbe_27 rfl (Nat.le_of_ble_eq_true rfl) ?_
      refine gz_iload_n (pc := 28) cx qd_N_restOrProbe_28 rfl rfl ?_
      refine gz_iconst (v := -1) (pc := 29) cx qd_N_restOrProbe_29 (by decide) ?_
      refine gz_icmp_ne (tgt := 39) (pc := 30) cx qd_N_restOrProbe_30 (by decide) (fun _ => ?_) (fun h30 => absurd h30 (g_nm1 (by omega)))
      refine gz_aload_n (pc := 39) cx qd_N_restOrProbe_39 rfl rfl ?_
      refine gz_iload_n (pc := 40) cx qd_N_restOrProbe_40 rfl rfl ?_
      refine gz_putI (pc := 41) cx qp_N_62 qd_N_restOrProbe_41 (gm_N (by assumption)) rfl rfl ⟨rfl, rfl⟩ (fun h => nomatch h) ?_
      refine gz_aload_n (pc := 44) cx qd_N_restOrProbe_44 rfl rfl ?_
      refine gz_iload_n (pc := 45) cx qd_N_restOrProbe_45 rfl rfl ?_
      refine gz_putI (pc := 46) cx qp_N_65 qd_N_restOrProbe_46 (gm_N (by assumption)) rfl rfl ⟨rfl, rfl⟩ (fun h => nomatch h) ?_
      refine gz_aload_n (pc := 49) cx qd_N_restOrProbe_49 rfl rfl ?_
      refine gz_dup (pc := 50) cx qd_N_restOrProbe_50 ?_
      obtain ⟨c2, f2⟩ := c1.N (i := i) (f := 11) (by decide) (by decide) (by decide) (nI m)
      obtain ⟨c3, f3⟩ := c2.N (i := i) (f := 12) (by decide) (by decide) (by decide) (nI m)
      have n10 := (c3.2.2.1 i 10 hi (by decide) (by decide) (by decide)).trans ((mSet_ne (by omega)).trans (mSet_ne (by omega) : _ = M1.1 20 i 0))
      refine gz_getV (pc := 51) cx qf_N_59 qd_N_restOrProbe_51 (gm_N (by assumption)) rfl rfl n10 ?_
      refine gz_iconst (v := 1) (pc := 54) cx qd_N_restOrProbe_54 (by decide) ?_
      refine gz_iadd (pc := 55) cx qd_N_restOrProbe_55 ?_
      refine gz_putI (pc := 56) cx qp_N_59 qd_N_restOrProbe_56 (gm_N (by assumption)) rfl rfl ⟨rfl, rfl⟩ (fun h => nomatch h) ?_
      refine gz_aload_n (pc := 59) cx qd_N_restOrProbe_59 rfl rfl ?_
      refine gz_iconst (v := 0) (pc := 60) cx qd_N_restOrProbe_60 (by decide) ?_
      refine gz_putI (pc := 61) cx qp_N_68 qd_N_restOrProbe_61 (gm_N (by assumption)) rfl rfl ⟨rfl, rfl⟩ (fun h => nomatch h) ?_
      refine gz_aload_n (pc := 64) cx qd_N_restOrProbe_64 rfl rfl ?_
      refine gz_iconst (v := 0) (pc := 65) cx qd_N_restOrProbe_65 (by decide) ?_
      refine gz_putI (pc := 66) cx qp_N_71 qd_N_restOrProbe_66 (gm_N (by assumption)) rfl rfl ⟨by decide, by decide⟩ (fun h => nomatch h) ?_
      refine gz_aload_n (pc := 69) cx qd_N_restOrProbe_69 rfl rfl ?_
      refine gz_iconst (v := 0) (pc := 70) cx qd_N_restOrProbe_70 (by decide) ?_
      refine gz_putI (pc := 71) cx qp_N_74 qd_N_restOrProbe_71 (gm_N (by assumption)) rfl rfl ⟨rfl, rfl⟩ (fun h => nomatch h) ?_
      refine gz_aload_n (pc := 74) cx qd_N_restOrProbe_74 rfl rfl ?_
      refine gz_iconst (v := 0) (pc := 75) cx qd_N_restOrProbe_75 (by decide) ?_
      refine gz_putI (pc := 76) cx qp_N_77 qd_N_restOrProbe_76 (gm_N (by assumption)) rfl rfl ⟨rfl, rfl⟩ (fun h => nomatch h) ?_
      obtain ⟨c4, f4⟩ := c3.N (i := i) (f := 10) (by decide) (by decide) (by decide) (M1.1 20 i 0 + 1)
      obtain ⟨c5, f5⟩ := c4.N (i := i) (f := 13) (by decide) (by decide) (by decide) (0)
      obtain ⟨c6, f6⟩ := c5.N (i := i) (f := 14) (by decide) (by decide) (by decide) (0)
      obtain ⟨c7, f7⟩ := c6.N (i := i) (f := 15) (by decide) (by decide) (by decide) (0)
      obtain ⟨c8, f8⟩ := c7.N (i := i) (f := 16) (by decide) (by decide) (by decide) (0)
      have nid := (c8.1.2.2.2.1 i hi).1
      have n83 := (c8.2.2.1 i 10 hi (by decide) (by decide) (by decide)).trans ((mSet_ne (by omega)).trans ((mSet_ne (by omega)).trans ((mSet_ne (by omega)).trans ((mSet_ne (by omega)).trans (mSet_eq : _ = M1.1 20 i 0 + 1)))))
      refine gz_aload_n (pc := 79) cx qd_N_restOrProbe_79 rfl rfl ?_
      refine gz_iconst (v := 1) (pc := 80) cx qd_N_restOrProbe_80 (by decide) ?_
      refine gz_iload_n (pc := 81) cx qd_N_restOrProbe_81 rfl rfl ?_
      refine gz_aload_n (pc := 82) cx qd_N_restOrProbe_82 rfl rfl ?_
      refine gz_getV (pc := 83) cx qf_N_59 qd_N_restOrProbe_83 (gm_N (by assumption)) rfl rfl n83 ?_
      refine gz_aload_n (pc := 86) cx qd_N_restOrProbe_86 rfl rfl ?_
      refine gz_getV (pc := 87) cx qf_N_17 qd_N_restOrProbe_87 (gm_N (by assumption)) rfl rfl nid ?_
      refine gz_iload_n (pc := 90) cx qd_N_restOrProbe_90 rfl rfl ?_
      refine gz_callV (pc := 91) cx qv_N_89 qd_N_restOrProbe_91 (gc_send hi c8 (Or.inl rfl)) (by decide) rfl (gm_N (by assumption)) rfl rfl rfl rfl (Nat.le_of_ble_eq_true rfl) ⟨Nat.zero_le _, Nat.zero_le _⟩ ?_
      rintro _ S' ⟨rfl, c9, f9⟩
      refine gz_return (pc := 94) cx hr qd_N_restOrProbe_94 ?_
      refine ⟨rfl, ?_, (((((((f1.tr f2).tr f3).tr f4).tr f5).tr f6).tr f7).tr f8).tr f9⟩
      rw [hsp, if_pos h14, hn]
      exact c9
  · refine gz_return (pc := 17) cx hr qd_N_restOrProbe_17 ?_
    refine ⟨rfl, ?_, f1⟩
    rw [hsp, if_neg h14]
    exact c1
theorem gc_N_askOthers {G : gG} {la : Launch} {M : mM} {i0 : Nat} {kc : Option (Nat × List Int32)} {S : gS} {i pr : Nat} (hi : i < G.1) (h : CR G M 0 i0 kc S) (hp : pr < G.1) (hpr : M.1 21 i 0 = nI pr) : gM G la qy_N_askOthers qw_N_askOthers 3 0 0 (gTt G) (gTt G) [.inr (some (7, i, 0))] S (fun v S' => v = none ∧ CR G (mAskF G.1 i (G.1 - 1) 1 M) 0 i0 kc S' ∧ gFr S S') := by
  refine gM_of (cc := qc_N_askOthers) (maxL := 3) (by decide) rfl (Nat.le_of_ble_eq_true rfl) ?_
  intro E cx hr hnm hcz hsz hEl
  subst hEl
  have h8 := h.1.2.1
  have h2 := h.1.2.2.1
  suffices hh : ∀ rem k Mk Sk, k + rem = G.1 → CR G Mk 0 i0 kc Sk → gFr S Sk → Mk.1 21 i 0 = nI pr → mAskF G.1 i (G.1 - 1) 1 M = mAskF G.1 i rem k Mk → gZ G E 0 0 (gEnd G E 0 0 (gTt G) (fun v S' => v = none ∧ CR G (mAskF G.1 i (G.1 - 1) 1 M) 0 i0 kc S' ∧ gFr S S')) (gTt G) 2 [some (.inr (some (7, i, 0))), some (.inl (nI k)), none] [] Sk by
    refine gz_iconst (v := 1) (pc := 0) cx qd_N_askOthers_0 (by decide) ?_
    refine gz_istore_n (pc := 1) cx qd_N_askOthers_1 rfl (Nat.le_of_ble_eq_true rfl) ?_
    exact hh (G.1 - 1) 1 M S (by omega) h gFr.rf hpr rfl
  intro rem
  induction rem with
  | zero =>
    intro k Mk Sk hk hc hf hpk he
    obtain rfl : k = G.1 := by omega
    obtain ⟨hid, hcnt⟩ := hc.1.2.2.2.1 i hi
    refine gz_iload_n (pc := 2) cx qd_N_askOthers_2 rfl rfl ?_
    refine gz_aload_n (pc := 3) cx qd_N_askOthers_3 rfl rfl ?_
    refine gz_getV (pc := 4) cx qf_N_21 qd_N_askOthers_4 (gm_N (by assumption)) rfl rfl hcnt ?_
    refine gz_icmp_ge (tgt := 85) (pc := 7) cx qd_N_askOthers_7 (by decide) (fun _ => ?_) (fun h7 => absurd (Int32.le_refl _) h7)
    refine gz_return (pc := 85) cx hr qd_N_askOthers_85 ?_
    exact ⟨rfl, by rw [he]; exact hc, hf⟩
  | succ rem ih =>
    intro k Mk Sk hk hc hf hpk he
    obtain ⟨hid, hcnt⟩ := hc.1.2.2.2.1 i hi
    have hst := hc.1.1
    have e15 : Sk.1 (7, i, 0) 15 = Mk.1 25 i 0 := hc.2.2.1 i 15 hi (by decide) (by decide) (by decide)
    have e11 : Sk.1 (7, i, 0) 11 = Mk.1 21 i 0 := hc.2.2.1 i 11 hi (by decide) (by decide) (by decide)
    have e10 : Sk.1 (7, i, 0) 10 = Mk.1 20 i 0 := hc.2.2.1 i 10 hi (by decide) (by decide) (by decide)
    have hmn : (pr + k) % G.1 < G.1 := Nat.mod_lt _ (by omega)
    have e0 : Sk.1 (9, i, (pr + k) % G.1) 0 = Mk.1 0 i ((pr + k) % G.1) := hc.2.1 i _ 0 hi hmn (by decide)
    have hmi : nI ((pr + k) % G.1) = nI i ↔ (pr + k) % G.1 = i := nI_eq (by omega) (by omega)
    have hcl : (Mk.1 21 i 0).toNatClampNeg = pr := by rw [hpk]; exact nI_clamp (by omega)
    rw [mAskF, hcl] at he
    refine gz_iload_n (pc := 2) cx qd_N_askOthers_2 rfl rfl ?_
    refine gz_aload_n (pc := 3) cx qd_N_askOthers_3 rfl rfl ?_
    refine gz_getV (pc := 4) cx qf_N_21 qd_N_askOthers_4 (gm_N (by assumption)) rfl rfl hcnt ?_
    refine gz_icmp_ge (tgt := 85) (pc := 7) cx qd_N_askOthers_7 (by decide) (fun h7 => absurd h7 (nI_ge (by omega) (by omega))) (fun _ => ?_)
    refine gz_aload_n (pc := 10) cx qd_N_askOthers_10 rfl rfl ?_
    refine gz_getV (pc := 11) cx qf_N_74 qd_N_askOthers_11 (gm_N (by assumption)) rfl rfl e15 ?_
    refine gz_iconst (v := 2) (pc := 14) cx qd_N_askOthers_14 (by decide) ?_
    refine gz_icmp_ge (tgt := 85) (pc := 15) cx qd_N_askOthers_15 (by decide) (fun h15 => ?_) (fun h15 => ?_)
    · refine gz_return (pc := 85) cx hr qd_N_askOthers_85 ?_
      rw [if_pos h15] at he
      exact ⟨rfl, by rw [he]; exact hc, hf⟩
    · refine gz_aload_n (pc := 18) cx qd_N_askOthers_18 rfl rfl ?_
      refine gz_getV (pc := 19) cx qf_N_62 qd_N_askOthers_19 (gm_N (by assumption)) rfl rfl (e11.trans hpk) ?_
      refine gz_iload_n (pc := 22) cx qd_N_askOthers_22 rfl rfl ?_
      refine gz_iadd (pc := 23) cx qd_N_askOthers_23 ?_
      refine gz_aload_n (pc := 24) cx qd_N_askOthers_24 rfl rfl ?_
      refine gz_getV (pc := 25) cx qf_N_21 qd_N_askOthers_25 (gm_N (by assumption)) rfl rfl hcnt ?_
      refine gz_irem (pc := 28) cx qd_N_askOthers_28 (nI_ne0 (by omega) (by omega)) ?_
      rw [nI_add, pk_rem (by omega) (by omega) (by omega)]
      refine gz_istore_n (pc := 29) cx qd_N_askOthers_29 rfl (Nat.le_of_ble_eq_true rfl) ?_
      refine gz_iload_n (pc := 30) cx qd_N_askOthers_30 rfl rfl ?_
      refine gz_aload_n (pc := 31) cx qd_N_askOthers_31 rfl rfl ?_
      refine gz_getV (pc := 32) cx qf_N_17 qd_N_askOthers_32 (gm_N (by assumption)) rfl rfl hid ?_
      refine gz_icmp_eq (tgt := 79) (pc := 35) cx qd_N_askOthers_35 (by decide) (fun h35 => ?_) (fun h35 => ?_)
      · refine gz_iinc (pc := 79) cx qd_N_askOthers_79 rfl (g_inc k) ?_
        refine gz_goto (tgt := 2) (pc := 82) cx qd_N_askOthers_82 (by decide) ?_
        refine gz_weak (lv' := [some (.inr (some (7, i, 0))), some (.inl (nI (k + 1))), none]) ⟨rfl, rfl, trivial⟩ ?_
        rw [if_neg h15, if_neg (fun q => q.1 (hmi.mp h35))] at he
        exact ih (k + 1) Mk Sk (by omega) hc hf hpk he
      · refine gz_aload_n (pc := 38) cx qd_N_askOthers_38 rfl rfl ?_
        refine gz_getR (pc := 39) cx qf_N_30 qd_N_askOthers_39 (gm_N (by assumption)) rfl rfl (hst _ _ _ rfl) ?_
        refine gz_iload_n (pc := 42) cx qd_N_askOthers_42 rfl rfl ?_
        refine gz_aaload (pc := 43) cx qd_N_askOthers_43 (by first | exact gm_tb (by assumption) | exact gm_ns | exact gm_cf | exact gm_w (by assumption) | exact gm_nw (by assumption) | exact gm_rs (by assumption) | exact gm_M (by assumption) | exact gm_R (by assumption) (by assumption) | exact gm_za (by decide) (by decide)) rfl ⟨by decide, by decide, rfl⟩ (hst _ _ _ rfl) rfl (by assumption) (by omega) ?_
        refine gz_getV (pc := 44) cx qf_N_86 qd_N_askOthers_44 (gm_E (by assumption) (by assumption)) rfl rfl e0 ?_
        refine gz_iconst (v := 1) (pc := 47) cx qd_N_askOthers_47 (by decide) ?_
        refine gz_icmp_ne (tgt := 79) (pc := 48) cx qd_N_askOthers_48 (by decide) (fun h48 => ?_) (fun h48 => ?_)
        · refine gz_iinc (pc := 79) cx qd_N_askOthers_79 rfl (g_inc k) ?_
          refine gz_goto (tgt := 2) (pc := 82) cx qd_N_askOthers_82 (by decide) ?_
          refine gz_weak (lv' := [some (.inr (some (7, i, 0))), some (.inl (nI (k + 1))), none]) ⟨rfl, rfl, trivial⟩ ?_
          rw [if_neg h15, if_neg (fun q => h48 q.2)] at he
          exact ih (k + 1) Mk Sk (by omega) hc hf hpk he
        · refine gz_aload_n (pc := 51) cx qd_N_askOthers_51 rfl rfl ?_
          refine gz_iconst (v := 3) (pc := 52) cx qd_N_askOthers_52 (by decide) ?_
          refine gz_iload_n (pc := 53) cx qd_N_askOthers_53 rfl rfl ?_
          refine gz_aload_n (pc := 54) cx qd_N_askOthers_54 rfl rfl ?_
          refine gz_getV (pc := 55) cx qf_N_59 qd_N_askOthers_55 (gm_N (by assumption)) rfl rfl e10 ?_
          refine gz_aload_n (pc := 58) cx qd_N_askOthers_58 rfl rfl ?_
          refine gz_getV (pc := 59) cx qf_N_17 qd_N_askOthers_59 (gm_N (by assumption)) rfl rfl hid ?_
          refine gz_aload_n (pc := 62) cx qd_N_askOthers_62 rfl rfl ?_
          refine gz_getV (pc := 63) cx qf_N_62 qd_N_askOthers_63 (gm_N (by assumption)) rfl rfl e11 ?_
          refine gz_callV (pc := 66) cx qv_N_89 qd_N_askOthers_66 (gc_send hi hc (Or.inl rfl)) (by decide) rfl (gm_N (by assumption)) rfl rfl rfl rfl (Nat.le_of_ble_eq_true rfl) ⟨Nat.zero_le _, Nat.zero_le _⟩ ?_
          rintro _ S' ⟨rfl, c2, f2⟩
          have d15 := (c2.2.2.1 i 15 hi (by decide) (by decide) (by decide)).trans (mSend_1 (by decide) : _ = Mk.1 25 i 0)
          refine gz_aload_n (pc := 69) cx qd_N_askOthers_69 rfl rfl ?_
          refine gz_dup (pc := 70) cx qd_N_askOthers_70 ?_
          refine gz_getV (pc := 71) cx qf_N_74 qd_N_askOthers_71 (gm_N (by assumption)) rfl rfl d15 ?_
          refine gz_iconst (v := 1) (pc := 74) cx qd_N_askOthers_74 (by decide) ?_
          refine gz_iadd (pc := 75) cx qd_N_askOthers_75 ?_
          refine gz_putI (pc := 76) cx qp_N_74 qd_N_askOthers_76 (gm_N (by assumption)) rfl rfl ⟨rfl, rfl⟩ (fun h => nomatch h) ?_
          refine gz_iinc (pc := 79) cx qd_N_askOthers_79 rfl (g_inc k) ?_
          refine gz_goto (tgt := 2) (pc := 82) cx qd_N_askOthers_82 (by decide) ?_
          refine gz_weak (lv' := [some (.inr (some (7, i, 0))), some (.inl (nI (k + 1))), none]) ⟨rfl, rfl, trivial⟩ ?_
          rw [if_neg h15, if_pos ⟨fun q => h35 (hmi.mpr q), h48⟩] at he
          obtain ⟨c3, f3⟩ := c2.N (i := i) (f := 15) (by decide) (by decide) (by decide) (Mk.1 25 i 0 + 1)
          exact ih (k + 1) _ _ (by omega) c3 ((hf.tr f2).tr f3) ((mSet_ne (by omega)).trans ((mSend_1 (by decide)).trans hpk)) he
theorem gc_N_endProbe {G : gG} {la : Launch} {M : mM} {i0 : Nat} {kc : Option (Nat × List Int32)} {S : gS} {i pr : Nat} {w : Int32} (hi : i < G.1) (h : CR G M 0 i0 kc S) (hp : pr < G.1) (hpr : M.1 21 i 0 = nI pr) : gM G la qy_N_endProbe qw_N_endProbe 3 0 0 (gTt G) (gTt G) [.inr (some (7, i, 0)), .inl w] S (fun v S' => v = none ∧ CR G (mEnd M i w) 0 i0 kc S' ∧ gFr S S') := by
  refine gM_of (cc := qc_N_endProbe) (maxL := 3) (by decide) rfl (Nat.le_of_ble_eq_true rfl) ?_
  intro E cx hr hnm hcz hsz hEl
  subst hEl
  have h8 := h.1.2.1
  have hst := h.1.1
  have e14 : S.1 (7, i, 0) 14 = M.1 24 i 0 := h.2.2.1 i 14 hi (by decide) (by decide) (by decide)
  have e15 : S.1 (7, i, 0) 15 = M.1 25 i 0 := h.2.2.1 i 15 hi (by decide) (by decide) (by decide)
  have e16 : S.1 (7, i, 0) 16 = M.1 26 i 0 := h.2.2.1 i 16 hi (by decide) (by decide) (by decide)
  have e7 : S.1 (7, i, 0) 7 = M.1 17 i 0 := h.2.2.1 i 7 hi (by decide) (by decide) (by decide)
  have e11 : S.1 (7, i, 0) 11 = M.1 21 i 0 := h.2.2.1 i 11 hi (by decide) (by decide) (by decide)
  have hcl : (M.1 21 i 0).toNatClampNeg = pr := by rw [hpr]; exact nI_clamp (by omega)
  have tail : ∀ M1 S1, CR G M1 0 i0 kc S1 → gFr S S1 → mEnd M i w = mSet (mSet (mSet (mSet M1 21 i 0 (-1)) 23 i 0 0) 24 i 0 0) 19 i 0 (1 + M1.1 17 i 0) → gZ G E 0 0 (gEnd G E 0 0 (gTt G) (fun v S' => v = none ∧ CR G (mEnd M i w) 0 i0 kc S' ∧ gFr S S')) (gTt G) 83 [some (.inr (some (7, i, 0))), some (.inl w), none] [] S1 := by
    intro M1 S1 c1 f1 he
    refine gz_aload_n (pc := 83) cx qd_N_endProbe_83 rfl rfl ?_
    refine gz_iconst (v := -1) (pc := 84) cx qd_N_endProbe_84 (by decide) ?_
    refine gz_putI (pc := 85) cx qp_N_62 qd_N_endProbe_85 (gm_N (by assumption)) rfl rfl ⟨rfl, rfl⟩ (fun h => nomatch h) ?_
    refine gz_aload_n (pc := 88) cx qd_N_endProbe_88 rfl rfl ?_
    refine gz_iconst (v := 0) (pc := 89) cx qd_N_endProbe_89 (by decide) ?_
    refine gz_putI (pc := 90) cx qp_N_68 qd_N_endProbe_90 (gm_N (by assumption)) rfl rfl ⟨rfl, rfl⟩ (fun h => nomatch h) ?_
    refine gz_aload_n (pc := 93) cx qd_N_endProbe_93 rfl rfl ?_
    refine gz_iconst (v := 0) (pc := 94) cx qd_N_endProbe_94 (by decide) ?_
    refine gz_putI (pc := 95) cx qp_N_71 qd_N_endProbe_95 (gm_N (by assumption)) rfl rfl ⟨by decide, by decide⟩ (fun h => nomatch h) ?_
    obtain ⟨c2, f2⟩ := c1.N (i := i) (f := 11) (by decide) (by decide) (by decide) (-1)
    obtain ⟨c3, f3⟩ := c2.N (i := i) (f := 13) (by decide) (by decide) (by decide) (0)
    obtain ⟨c4, f4⟩ := c3.N (i := i) (f := 14) (by decide) (by decide) (by decide) (0)
    have d7 := (c4.2.2.1 i 7 hi (by decide) (by decide) (by decide)).trans ((mSet_ne (by omega)).trans ((mSet_ne (by omega)).trans (mSet_ne (by omega) : _ = M1.1 17 i 0)))
    refine gz_aload_n (pc := 98) cx qd_N_endProbe_98 rfl rfl ?_
    refine gz_iconst (v := 1) (pc := 99) cx qd_N_endProbe_99 (by decide) ?_
    refine gz_aload_n (pc := 100) cx qd_N_endProbe_100 rfl rfl ?_
    refine gz_getV (pc := 101) cx qf_N_50 qd_N_endProbe_101 (gm_N (by assumption)) rfl rfl d7 ?_
    refine gz_iadd (pc := 104) cx qd_N_endProbe_104 ?_
    refine gz_putI (pc := 105) cx qp_N_56 qd_N_endProbe_105 (gm_N (by assumption)) rfl rfl ⟨rfl, rfl⟩ (fun h => nomatch h) ?_
    refine gz_return (pc := 108) cx hr qd_N_endProbe_108 ?_
    obtain ⟨c5, f5⟩ := c4.N (i := i) (f := 9) (by decide) (by decide) (by decide) (1 + M1.1 17 i 0)
    exact ⟨rfl, by rw [he]; exact c5, (((f1.tr f2).tr f3).tr f4).tr f5⟩
  refine gz_aload_n (pc := 0) cx qd_N_endProbe_0 rfl rfl ?_
  refine gz_getV (pc := 1) cx qf_N_71 qd_N_endProbe_1 (gm_N (by assumption)) rfl rfl e14 ?_
  refine gz_if_eq (tgt := 24) (pc := 4) cx qd_N_endProbe_4 (by decide) (fun h4 => ?_) (fun h4 => ?_)
  · refine gz_aload_n (pc := 24) cx qd_N_endProbe_24 rfl rfl ?_
    refine gz_aload_n (pc := 25) cx qd_N_endProbe_25 rfl rfl ?_
    refine gz_getV (pc := 26) cx qf_N_74 qd_N_endProbe_26 (gm_N (by assumption)) rfl rfl e15 ?_
    refine gz_if_ne (tgt := 36) (pc := 29) cx qd_N_endProbe_29 (by decide) (fun h29 => ?_) (fun h29 => ?_)
    · refine gz_iconst (v := 0) (pc := 36) cx qd_N_endProbe_36 (by decide) ?_
      refine gz_aload_n (pc := 37) cx qd_N_endProbe_37 rfl rfl ?_
      refine gz_getV (pc := 38) cx qf_N_74 qd_N_endProbe_38 (gm_N (by assumption)) rfl rfl e15 ?_
      refine gz_aload_n (pc := 41) cx qd_N_endProbe_41 rfl rfl ?_
      refine gz_getV (pc := 42) cx qf_N_77 qd_N_endProbe_42 (gm_N (by assumption)) rfl rfl e16 ?_
      refine gz_isub (pc := 45) cx qd_N_endProbe_45 ?_
      refine gz_max (pc := 46) cx qm_N_234 qm_max_s qm_i qm_max_c qd_N_endProbe_46 (by decide) rfl (Nat.le_of_ble_eq_true rfl) ⟨Nat.zero_le _, Nat.zero_le _⟩ ?_
      refine gz_callV (pc := 49) cx qv_N_177 qd_N_endProbe_49 (gc_N_raiseScore hi) (by decide) rfl (gm_N (by assumption)) rfl rfl rfl rfl (Nat.le_of_ble_eq_true rfl) ⟨Nat.zero_le _, Nat.zero_le _⟩ ?_
      rintro _ _ ⟨rfl, rfl⟩
      rw [e7]
      obtain ⟨c1, f1⟩ := h.N (i := i) (f := 7) (by decide) (by decide) (by decide) (mMin4 (M.1 17 i 0 + mMax0 (M.1 25 i 0 - M.1 26 i 0)))
      have d11 := (c1.2.2.1 i 11 hi (by decide) (by decide) (by decide)).trans ((mSet_ne (by omega)).trans hpr)
      have hst := c1.1.1
      have d0 := (c1.2.1 i pr 0 hi hp (by decide)).trans (mSet_ne (by omega) : _ = M.1 0 i pr)
      have d1 := (c1.2.1 i pr 1 hi hp (by decide)).trans (mSet_ne (by omega) : _ = M.1 1 i pr)
      have did := (c1.1.2.2.2.1 i hi).1
      refine gz_aload_n (pc := 52) cx qd_N_endProbe_52 rfl rfl ?_
      refine gz_getR (pc := 53) cx qf_N_30 qd_N_endProbe_53 (gm_N (by assumption)) rfl rfl (hst _ _ _ rfl) ?_
      refine gz_aload_n (pc := 56) cx qd_N_endProbe_56 rfl rfl ?_
      refine gz_getV (pc := 57) cx qf_N_62 qd_N_endProbe_57 (gm_N (by assumption)) rfl rfl d11 ?_
      refine gz_aaload (pc := 60) cx qd_N_endProbe_60 (by first | exact gm_tb (by assumption) | exact gm_ns | exact gm_cf | exact gm_w (by assumption) | exact gm_nw (by assumption) | exact gm_rs (by assumption) | exact gm_M (by assumption) | exact gm_R (by assumption) (by assumption) | exact gm_za (by decide) (by decide)) rfl ⟨by decide, by decide, rfl⟩ (hst _ _ _ rfl) rfl (by assumption) (by omega) ?_
      refine gz_astore_n (pc := 61) cx qd_N_endProbe_61 rfl (Nat.le_of_ble_eq_true rfl) ?_
      refine gz_aload_n (pc := 62) cx qd_N_endProbe_62 rfl rfl ?_
      refine gz_getV (pc := 63) cx qf_N_86 qd_N_endProbe_63 (gm_E (by assumption) (by assumption)) rfl rfl d0 ?_
      refine gz_iconst (v := 1) (pc := 66) cx qd_N_endProbe_66 (by decide) ?_
      refine gz_icmp_ne (tgt := 83) (pc := 67) cx qd_N_endProbe_67 (by decide) (fun h67 => ?_) (fun h67 => ?_)
      · refine gz_weak (lv' := [some (.inr (some (7, i, 0))), some (.inl w), none]) ⟨rfl, rfl, trivial⟩ ?_
        refine tail _ _ c1 f1 ?_
        unfold mEnd
        rw [hcl]
        simp only []
        rw [if_pos h4, if_neg h29, if_neg h67]
      · refine gz_aload_n (pc := 70) cx qd_N_endProbe_70 rfl rfl ?_
        refine gz_aload_n (pc := 71) cx qd_N_endProbe_71 rfl rfl ?_
        refine gz_getV (pc := 72) cx qf_N_83 qd_N_endProbe_72 (gm_E (by assumption) (by assumption)) rfl rfl d1 ?_
        refine gz_iload_n (pc := 75) cx qd_N_endProbe_75 rfl rfl ?_
        refine gz_aload_n (pc := 76) cx qd_N_endProbe_76 rfl rfl ?_
        refine gz_getV (pc := 77) cx qf_N_17 qd_N_endProbe_77 (gm_N (by assumption)) rfl rfl did ?_
        refine gz_callV (pc := 80) cx qv_N_168 qd_N_endProbe_80 (gc_E_becomeSuspect hi hp) (by decide) rfl (gm_E (by assumption) (by assumption)) rfl rfl rfl rfl (Nat.le_of_ble_eq_true rfl) ⟨Nat.zero_le _, Nat.zero_le _⟩ ?_
        rintro _ _ ⟨rfl, rfl⟩
        refine gz_weak (lv' := [some (.inr (some (7, i, 0))), some (.inl w), none]) ⟨rfl, rfl, trivial⟩ ?_
        obtain ⟨c2, f2⟩ := c1.become (i := i) (j := pr) 2 (M.1 1 i pr) w
        obtain ⟨c3, f3⟩ := c2.E (i := i) (j := pr) (f := 3) (by decide) (mBit (nI i))
        refine tail _ _ c3 ((f1.tr f2).tr f3) ?_
        unfold mEnd
        rw [hcl]
        simp only []
        rw [if_pos h4, if_neg h29, if_pos h67]
    · refine gz_iconst (v := 1) (pc := 32) cx qd_N_endProbe_32 (by decide) ?_
      refine gz_goto (tgt := 49) (pc := 33) cx qd_N_endProbe_33 (by decide) ?_
      refine gz_callV (pc := 49) cx qv_N_177 qd_N_endProbe_49 (gc_N_raiseScore hi) (by decide) rfl (gm_N (by assumption)) rfl rfl rfl rfl (Nat.le_of_ble_eq_true rfl) ⟨Nat.zero_le _, Nat.zero_le _⟩ ?_
      rintro _ _ ⟨rfl, rfl⟩
      rw [e7]
      obtain ⟨c1, f1⟩ := h.N (i := i) (f := 7) (by decide) (by decide) (by decide) (mMin4 (M.1 17 i 0 + 1))
      have d11 := (c1.2.2.1 i 11 hi (by decide) (by decide) (by decide)).trans ((mSet_ne (by omega)).trans hpr)
      have hst := c1.1.1
      have d0 := (c1.2.1 i pr 0 hi hp (by decide)).trans (mSet_ne (by omega) : _ = M.1 0 i pr)
      have d1 := (c1.2.1 i pr 1 hi hp (by decide)).trans (mSet_ne (by omega) : _ = M.1 1 i pr)
      have did := (c1.1.2.2.2.1 i hi).1
      refine gz_aload_n (pc := 52) cx qd_N_endProbe_52 rfl rfl ?_
      refine gz_getR (pc := 53) cx qf_N_30 qd_N_endProbe_53 (gm_N (by assumption)) rfl rfl (hst _ _ _ rfl) ?_
      refine gz_aload_n (pc := 56) cx qd_N_endProbe_56 rfl rfl ?_
      refine gz_getV (pc := 57) cx qf_N_62 qd_N_endProbe_57 (gm_N (by assumption)) rfl rfl d11 ?_
      refine gz_aaload (pc := 60) cx qd_N_endProbe_60 (by first | exact gm_tb (by assumption) | exact gm_ns | exact gm_cf | exact gm_w (by assumption) | exact gm_nw (by assumption) | exact gm_rs (by assumption) | exact gm_M (by assumption) | exact gm_R (by assumption) (by assumption) | exact gm_za (by decide) (by decide)) rfl ⟨by decide, by decide, rfl⟩ (hst _ _ _ rfl) rfl (by assumption) (by omega) ?_
      refine gz_astore_n (pc := 61) cx qd_N_endProbe_61 rfl (Nat.le_of_ble_eq_true rfl) ?_
      refine gz_aload_n (pc := 62) cx qd_N_endProbe_62 rfl rfl ?_
      refine gz_getV (pc := 63) cx qf_N_86 qd_N_endProbe_63 (gm_E (by assumption) (by assumption)) rfl rfl d0 ?_
      refine gz_iconst (v := 1) (pc := 66) cx qd_N_endProbe_66 (by decide) ?_
      refine gz_icmp_ne (tgt := 83) (pc := 67) cx qd_N_endProbe_67 (by decide) (fun h67 => ?_) (fun h67 => ?_)
      · refine gz_weak (lv' := [some (.inr (some (7, i, 0))), some (.inl w), none]) ⟨rfl, rfl, trivial⟩ ?_
        refine tail _ _ c1 f1 ?_
        unfold mEnd
        rw [hcl]
        simp only []
        rw [if_pos h4, if_pos h29, if_neg h67]
      · refine gz_aload_n (pc := 70) cx qd_N_endProbe_70 rfl rfl ?_
        refine gz_aload_n (pc := 71) cx qd_N_endProbe_71 rfl rfl ?_
        refine gz_getV (pc := 72) cx qf_N_83 qd_N_endProbe_72 (gm_E (by assumption) (by assumption)) rfl rfl d1 ?_
        refine gz_iload_n (pc := 75) cx qd_N_endProbe_75 rfl rfl ?_
        refine gz_aload_n (pc := 76) cx qd_N_endProbe_76 rfl rfl ?_
        refine gz_getV (pc := 77) cx qf_N_17 qd_N_endProbe_77 (gm_N (by assumption)) rfl rfl did ?_
        refine gz_callV (pc := 80) cx qv_N_168 qd_N_endProbe_80 (gc_E_becomeSuspect hi hp) (by decide) rfl (gm_E (by assumption) (by assumption)) rfl rfl rfl rfl (Nat.le_of_ble_eq_true rfl) ⟨Nat.zero_le _, Nat.zero_le _⟩ ?_
        rintro _ _ ⟨rfl, rfl⟩
        refine gz_weak (lv' := [some (.inr (some (7, i, 0))), some (.inl w), none]) ⟨rfl, rfl, trivial⟩ ?_
        obtain ⟨c2, f2⟩ := c1.become (i := i) (j := pr) 2 (M.1 1 i pr) w
        obtain ⟨c3, f3⟩ := c2.E (i := i) (j := pr) (f := 3) (by decide) (mBit (nI i))
        refine tail _ _ c3 ((f1.tr f2).tr f3) ?_
        unfold mEnd
        rw [hcl]
        simp only []
        rw [if_pos h4, if_pos h29, if_pos h67]
  · refine gz_aload_n (pc := 7) cx qd_N_endProbe_7 rfl rfl ?_
    refine gz_iconst (v := 0) (pc := 8) cx qd_N_endProbe_8 (by decide) ?_
    refine gz_aload_n (pc := 9) cx qd_N_endProbe_9 rfl rfl ?_
    refine gz_getV (pc := 10) cx qf_N_50 qd_N_endProbe_10 (gm_N (by assumption)) rfl rfl e7 ?_
    refine gz_iconst (v := 1) (pc := 13) cx qd_N_endProbe_13 (by decide) ?_
    refine gz_isub (pc := 14) cx qd_N_endProbe_14 ?_
    refine gz_max (pc := 15) cx qm_N_234 qm_max_s qm_i qm_max_c qd_N_endProbe_15 (by decide) rfl (Nat.le_of_ble_eq_true rfl) ⟨Nat.zero_le _, Nat.zero_le _⟩ ?_
    refine gz_putI (pc := 18) cx qp_N_50 qd_N_endProbe_18 (gm_N (by assumption)) rfl rfl ⟨rfl, rfl⟩ (fun h => nomatch h) ?_
    refine gz_goto (tgt := 83) (pc := 21) cx qd_N_endProbe_21 (by decide) ?_
    refine gz_weak (lv' := [some (.inr (some (7, i, 0))), some (.inl w), none]) ⟨rfl, rfl, trivial⟩ ?_
    obtain ⟨c1, f1⟩ := h.N (i := i) (f := 7) (by decide) (by decide) (by decide) (mMax0 (M.1 17 i 0 - 1))
    refine tail _ _ c1 f1 ?_
    unfold mEnd
    rw [hcl]
    simp only []
    rw [if_neg h4]
theorem gc_N_goOnProbing {G : gG} {la : Launch} {M : mM} {i0 : Nat} {kc : Option (Nat × List Int32)} {S : gS} {i pr : Nat} {w : Int32} (hi : i < G.1) (h : CR G M 0 i0 kc S) (hp : pr < G.1) (hpr : M.1 21 i 0 = nI pr) : gM G la qy_N_goOnProbing qw_N_goOnProbing 4 0 0 (gTt G) (gTt G) [.inr (some (7, i, 0)), .inl w] S (fun v S' => v = none ∧ CR G (mGo G.1 M i w) 0 i0 kc S' ∧ gFr S S') := by
  refine gM_of (cc := qc_N_goOnProbing) (maxL := 2) (by decide) rfl (Nat.le_of_ble_eq_true rfl) ?_
  intro E cx hr hnm hcz hsz hEl
  subst hEl
  have h8 := h.1.2.1
  have e13 : S.1 (7, i, 0) 13 = M.1 23 i 0 := h.2.2.1 i 13 hi (by decide) (by decide) (by decide)
  have e14 : S.1 (7, i, 0) 14 = M.1 24 i 0 := h.2.2.1 i 14 hi (by decide) (by decide) (by decide)
  have tail : ∀ M2 S2, CR G M2 0 i0 kc S2 → gFr S S2 → M2.1 23 i 0 = M.1 23 i 0 + 1 → M2.1 21 i 0 = nI pr → (mGo G.1 M i w = if M.1 23 i 0 + 1 < 8 then M2 else mEnd M2 i w) → gZ G E 0 0 (gEnd G E 0 0 (gTt G) (fun v S' => v = none ∧ CR G (mGo G.1 M i w) 0 i0 kc S' ∧ gFr S S')) (gTt G) 29 [some (.inr (some (7, i, 0))), some (.inl w)] [] S2 := by
    intro M2 S2 c2 f2 h23 h21 he
    refine gz_aload_n (pc := 29) cx qd_N_goOnProbing_29 rfl rfl ?_
    refine gz_getV (pc := 30) cx qf_N_68 qd_N_goOnProbing_30 (gm_N (by assumption)) rfl rfl ((c2.2.2.1 i 13 hi (by decide) (by decide) (by decide)).trans h23) ?_
    refine gz_bipush (v := 8) (pc := 33) cx qd_N_goOnProbing_33 (by decide) ?_
    refine gz_icmp_lt (tgt := 43) (pc := 35) cx qd_N_goOnProbing_35 (by decide) (fun h35 => ?_) (fun h35 => ?_)
    · refine gz_return (pc := 43) cx hr qd_N_goOnProbing_43 ?_
      rw [if_pos h35] at he
      exact ⟨rfl, by rw [he]; exact c2, f2⟩
    · refine gz_aload_n (pc := 38) cx qd_N_goOnProbing_38 rfl rfl ?_
      refine gz_iload_n (pc := 39) cx qd_N_goOnProbing_39 rfl rfl ?_
      refine gz_callV (pc := 40) cx qv_N_231 qd_N_goOnProbing_40 (gc_N_endProbe hi c2 hp h21) (by decide) rfl (gm_N (by assumption)) rfl rfl rfl rfl (Nat.le_of_ble_eq_true rfl) ⟨Nat.zero_le _, Nat.zero_le _⟩ ?_
      rintro _ S' ⟨rfl, c3, f3⟩
      refine gz_return (pc := 43) cx hr qd_N_goOnProbing_43 ?_
      rw [if_neg h35] at he
      exact ⟨rfl, by rw [he]; exact c3, f2.tr f3⟩
  refine gz_aload_n (pc := 0) cx qd_N_goOnProbing_0 rfl rfl ?_
  refine gz_dup (pc := 1) cx qd_N_goOnProbing_1 ?_
  refine gz_getV (pc := 2) cx qf_N_68 qd_N_goOnProbing_2 (gm_N (by assumption)) rfl rfl e13 ?_
  refine gz_iconst (v := 1) (pc := 5) cx qd_N_goOnProbing_5 (by decide) ?_
  refine gz_iadd (pc := 6) cx qd_N_goOnProbing_6 ?_
  refine gz_putI (pc := 7) cx qp_N_68 qd_N_goOnProbing_7 (gm_N (by assumption)) rfl rfl ⟨rfl, rfl⟩ (fun h => nomatch h) ?_
  obtain ⟨c1, f1⟩ := h.N (i := i) (f := 13) (by decide) (by decide) (by decide) (M.1 23 i 0 + 1)
  have d14 := (c1.2.2.1 i 14 hi (by decide) (by decide) (by decide)).trans (mSet_ne (by omega) : _ = M.1 24 i 0)
  have d21 : (mSet M 23 i 0 (M.1 23 i 0 + 1)).1 21 i 0 = nI pr := (mSet_ne (by omega)).trans hpr
  refine gz_aload_n (pc := 10) cx qd_N_goOnProbing_10 rfl rfl ?_
  refine gz_getV (pc := 11) cx qf_N_68 qd_N_goOnProbing_11 (gm_N (by assumption)) rfl rfl (if_pos ⟨rfl, rfl⟩ : _ = M.1 23 i 0 + 1) ?_
  refine gz_iconst (v := 3) (pc := 14) cx qd_N_goOnProbing_14 (by decide) ?_
  refine gz_icmp_ne (tgt := 29) (pc := 15) cx qd_N_goOnProbing_15 (by decide) (fun h15 => ?_) (fun h15 => ?_)
  · refine tail _ _ c1 f1 mSet_eq d21 ?_
    unfold mGo
    simp only []
    rw [if_neg (show ¬ (M.1 23 i 0 + 1 = 3 ∧ M.1 24 i 0 = 0) from fun q => h15 q.1)]
  · refine gz_aload_n (pc := 18) cx qd_N_goOnProbing_18 rfl rfl ?_
    refine gz_getV (pc := 19) cx qf_N_71 qd_N_goOnProbing_19 (gm_N (by assumption)) rfl rfl d14 ?_
    refine gz_if_ne (tgt := 29) (pc := 22) cx qd_N_goOnProbing_22 (by decide) (fun h22 => ?_) (fun h22 => ?_)
    · refine tail _ _ c1 f1 mSet_eq d21 ?_
      unfold mGo
      simp only []
      rw [if_neg (show ¬ (M.1 23 i 0 + 1 = 3 ∧ M.1 24 i 0 = 0) from fun q => h22 q.2)]
    · refine gz_aload_n (pc := 25) cx qd_N_goOnProbing_25 rfl rfl ?_
      refine gz_callV (pc := 26) cx qv_N_228 qd_N_goOnProbing_26 (gc_N_askOthers hi c1 hp d21) (by decide) rfl (gm_N (by assumption)) rfl rfl rfl rfl (Nat.le_of_ble_eq_true rfl) ⟨Nat.zero_le _, Nat.zero_le _⟩ ?_
      rintro _ S' ⟨rfl, c2, f2⟩
      refine tail _ _ c2 (f1.tr f2) ((mAskF_1 (by decide) (by decide)).trans mSet_eq) ((mAskF_1 (by decide) (by decide)).trans d21) ?_
      unfold mGo
      simp only []
      rw [if_pos (show M.1 23 i 0 + 1 = 3 ∧ M.1 24 i 0 = 0 from ⟨h15, h22⟩)]
theorem gc_N_syncWithNext {G : gG} {la : Launch} {M : mM} {i0 : Nat} {kc : Option (Nat × List Int32)} {S : gS} {i : Nat} (hi : i < G.1) (h : CR G M 0 i0 kc S) (hni : isN G.1 (M.1 27 i 0)) : gM G la qy_N_syncWithNext qw_N_syncWithNext 3 0 0 (gTt G) (gTt G) [.inr (some (7, i, 0))] S (fun v S' => v = none ∧ CR G (mSync G.1 M i) 0 i0 kc S' ∧ gFr S S') := by
  refine gM_of (cc := qc_N_syncWithNext) (maxL := 2) (by decide) rfl (Nat.le_of_ble_eq_true rfl) ?_
  intro E cx hr hnm hcz hsz hEl
  subst hEl
  have h8 := h.1.2.1
  obtain ⟨b, hb, hlb⟩ := hni
  have e17 : S.1 (7, i, 0) 17 = M.1 27 i 0 := h.2.2.1 i 17 hi (by decide) (by decide) (by decide)
  have hsp : mSync G.1 M i = (match mNext G.1 b (mOkS M i 1) with
      | none => M
      | some m => mSend G.1 (mSet M 27 i 0 (nI m)) 6 i (nI m) 0 0 0) := by
    unfold mSync
    rw [hlb, nI_clamp (by omega)]
    rfl
  refine gz_aload_n (pc := 0) cx qd_N_syncWithNext_0 rfl rfl ?_
  refine gz_aload_n (pc := 1) cx qd_N_syncWithNext_1 rfl rfl ?_
  refine gz_getV (pc := 2) cx qf_N_80 qd_N_syncWithNext_2 (gm_N (by assumption)) rfl rfl (e17.trans hlb) ?_
  refine gz_iconst (v := 1) (pc := 5) cx qd_N_syncWithNext_5 (by decide) ?_
  refine gz_callV (pc := 6) cx qv_N_225 qd_N_syncWithNext_6 (gc_N_nextBehind hi hb h) (by decide) rfl (gm_N (by assumption)) rfl rfl rfl rfl (Nat.le_of_ble_eq_true rfl) ⟨Nat.zero_le _, Nat.zero_le _⟩ ?_
  rintro _ S' ⟨rfl, hS'⟩
  subst hS'
  cases hn : mNext G.1 b (mOkS M i 1) with
  | none =>
    refine gz_istore_n (pc := 9) cx qd_N_syncWithNext_9 rfl (Nat.le_of_ble_eq_true rfl) ?_
    refine gz_iload_n (pc := 10) cx qd_N_syncWithNext_10 rfl rfl ?_
    refine gz_iconst (v := -1) (pc := 11) cx qd_N_syncWithNext_11 (by decide) ?_
    refine gz_icmp_eq (tgt := 30) (pc := 12) cx qd_N_syncWithNext_12 (by decide) (fun _ => ?_) (fun h12 => absurd rfl h12)
    refine gz_return (pc := 30) cx hr qd_N_syncWithNext_30 ?_
    exact ⟨rfl, by rw [hsp, hn]; exact h, gFr.rf⟩
  | some m =>
    have hmn := (mNextF_lt (by omega) hn).1
    refine gz_istore_n (pc := 9) cx qd_N_syncWithNext_9 rfl (Nat.le_of_ble_eq_true rfl) ?_
    refine gz_iload_n (pc := 10) cx qd_N_syncWithNext_10 rfl rfl ?_
    refine gz_iconst (v := -1) (pc := 11) cx qd_N_syncWithNext_11 (by decide) ?_
    refine gz_icmp_eq (tgt := 30) (pc := 12) cx qd_N_syncWithNext_12 (by decide) (fun h12 => absurd h12 (g_nm1 (by omega))) (fun _ => ?_)
    refine gz_aload_n (pc := 15) cx qd_N_syncWithNext_15 rfl rfl ?_
    refine gz_iload_n (pc := 16) cx qd_N_syncWithNext_16 rfl rfl ?_
    refine gz_putI (pc := 17) cx qp_N_80 qd_N_syncWithNext_17 (gm_N (by assumption)) rfl rfl ⟨rfl, rfl⟩ (fun h => nomatch h) ?_
    obtain ⟨c1, f1⟩ := h.N (i := i) (f := 17) (by decide) (by decide) (by decide) (nI m)
    refine gz_aload_n (pc := 20) cx qd_N_syncWithNext_20 rfl rfl ?_
    refine gz_bipush (v := 6) (pc := 21) cx qd_N_syncWithNext_21 (by decide) ?_
    refine gz_iload_n (pc := 23) cx qd_N_syncWithNext_23 rfl rfl ?_
    refine gz_iconst (v := 0) (pc := 24) cx qd_N_syncWithNext_24 (by decide) ?_
    refine gz_iconst (v := 0) (pc := 25) cx qd_N_syncWithNext_25 (by decide) ?_
    refine gz_iconst (v := 0) (pc := 26) cx qd_N_syncWithNext_26 (by decide) ?_
    refine gz_callV (pc := 27) cx qv_N_89 qd_N_syncWithNext_27 (gc_send hi c1 (Or.inl rfl)) (by decide) rfl (gm_N (by assumption)) rfl rfl rfl rfl (Nat.le_of_ble_eq_true rfl) ⟨Nat.zero_le _, Nat.zero_le _⟩ ?_
    rintro _ S' ⟨rfl, c2, f2⟩
    refine gz_return (pc := 30) cx hr qd_N_syncWithNext_30 ?_
    exact ⟨rfl, by rw [hsp, hn]; exact c2, f1.tr f2⟩
theorem mRest_27 {n : Nat} {M : mM} {i : Nat} : (mRest n M i).1 27 i 0 = M.1 27 i 0 := by
  unfold mRest
  simp only []
  split
  · split
    · rw [mSet_ne (by omega), mSet_ne (by omega)]
    · unfold mProbe
      simp only []
      rw [mSend_1 (by decide), mSet_ne (by omega), mSet_ne (by omega), mSet_ne (by omega), mSet_ne (by omega), mSet_ne (by omega), mSet_ne (by omega), mSet_ne (by omega), mSet_ne (by omega)]
  · rw [mSet_ne (by omega)]
theorem mEnd_27 {M : mM} {i : Nat} {w : Int32} : (mEnd M i w).1 27 i 0 = M.1 27 i 0 := by
  unfold mEnd
  simp only []
  rw [mSet_ne (by omega), mSet_ne (by omega), mSet_ne (by omega), mSet_ne (by omega)]
  split
  · split
    · rw [mSet_ne (by omega), mBecome_1 (by decide), mSet_ne (by omega)]
    · rw [mSet_ne (by omega)]
  · rw [mSet_ne (by omega)]
theorem mGo_27 {n : Nat} {M : mM} {i : Nat} {w : Int32} : (mGo n M i w).1 27 i 0 = M.1 27 i 0 := by
  unfold mGo
  simp only []
  have e : (if M.1 23 i 0 + 1 = 3 ∧ M.1 24 i 0 = 0 then mAskF n i (n - 1) 1 (mSet M 23 i 0 (M.1 23 i 0 + 1)) else mSet M 23 i 0 (M.1 23 i 0 + 1)).1 27 i 0 = M.1 27 i 0 := by
    split
    · rw [mAskF_1 (by decide) (by decide), mSet_ne (by omega)]
    · rw [mSet_ne (by omega)]
  split
  · exact e
  · rw [mEnd_27]; exact e
theorem gc_N_timer {G : gG} {la : Launch} {M : mM} {i0 : Nat} {kc : Option (Nat × List Int32)} {S : gS} {i : Nat} {w : Int32} (hi : i < G.1) (h : CR G M 0 i0 kc S) (hni : mNi G.1 M i) : gM G la qy_N_timer qw_N_timer 5 0 0 (gTt G) (gTt G) [.inr (some (7, i, 0)), .inl w] S (fun v S' => v = none ∧ CR G (mTimer G.1 M i w) 0 i0 kc S' ∧ gFr S S') := by
  refine gM_of (cc := qc_N_timer) (maxL := 2) (by decide) rfl (Nat.le_of_ble_eq_true rfl) ?_
  intro E cx hr hnm hcz hsz hEl
  subst hEl
  have tail : ∀ M2 S2, CR G M2 0 i0 kc S2 → gFr S S2 → isN G.1 (M2.1 27 i 0) → (mTimer G.1 M i w = if w - M2.1 16 i 0 - (w - M2.1 16 i 0) / 20 * 20 = 0 then mSync G.1 M2 i else M2) → gZ G E 0 0 (gEnd G E 0 0 (gTt G) (fun v S' => v = none ∧ CR G (mTimer G.1 M i w) 0 i0 kc S' ∧ gFr S S')) (gTt G) 29 [some (.inr (some (7, i, 0))), some (.inl w)] [] S2 := by
    intro M2 S2 c2 f2 h27 he
    refine gz_iload_n (pc := 29) cx qd_N_timer_29 rfl rfl ?_
    refine gz_aload_n (pc := 30) cx qd_N_timer_30 rfl rfl ?_
    refine gz_getV (pc := 31) cx qf_N_47 qd_N_timer_31 (gm_N (by assumption)) rfl rfl (c2.2.2.1 i 6 hi (by decide) (by decide) (by decide)) ?_
    refine gz_isub (pc := 34) cx qd_N_timer_34 ?_
    refine gz_bipush (v := 20) (pc := 35) cx qd_N_timer_35 (by decide) ?_
    refine gz_irem (pc := 37) cx qd_N_timer_37 (by decide) ?_
    refine gz_if_ne (tgt := 45) (pc := 38) cx qd_N_timer_38 (by decide) (fun h38 => ?_) (fun h38 => ?_)
    · refine gz_return (pc := 45) cx hr qd_N_timer_45 ?_
      rw [if_neg h38] at he
      exact ⟨rfl, by rw [he]; exact c2, f2⟩
    · refine gz_aload_n (pc := 41) cx qd_N_timer_41 rfl rfl ?_
      refine gz_callV (pc := 42) cx qv_N_214 qd_N_timer_42 (gc_N_syncWithNext hi c2 h27) (by decide) rfl (gm_N (by assumption)) rfl rfl rfl rfl (Nat.le_of_ble_eq_true rfl) ⟨Nat.zero_le _, Nat.zero_le _⟩ ?_
      rintro _ S' ⟨rfl, c3, f3⟩
      refine gz_return (pc := 45) cx hr qd_N_timer_45 ?_
      rw [if_pos h38] at he
      exact ⟨rfl, by rw [he]; exact c3, f2.tr f3⟩
  refine gz_aload_n (pc := 0) cx qd_N_timer_0 rfl rfl ?_
  refine gz_callV (pc := 1) cx qv_N_202 qd_N_timer_1 (gc_N_ageRelays hi h) (by decide) rfl (gm_N (by assumption)) rfl rfl rfl rfl (Nat.le_of_ble_eq_true rfl) ⟨Nat.zero_le _, Nat.zero_le _⟩ ?_
  rintro _ S' ⟨rfl, c1, f1⟩
  refine gz_aload_n (pc := 4) cx qd_N_timer_4 rfl rfl ?_
  refine gz_iload_n (pc := 5) cx qd_N_timer_5 rfl rfl ?_
  refine gz_callV (pc := 6) cx qv_N_205 qd_N_timer_6 (gc_N_buryOverdue hi c1) (by decide) rfl (gm_N (by assumption)) rfl rfl rfl rfl (Nat.le_of_ble_eq_true rfl) ⟨Nat.zero_le _, Nat.zero_le _⟩ ?_
  rintro _ S'' ⟨rfl, c2, f2⟩
  have en : ∀ f, 5 ≤ f → (mBury (mAge G.1 M i) i w G.1).1 f i 0 = M.1 f i 0 := fun f hf => (mBury_1 hf).trans (mAgeF_1 (by omega))
  refine gz_aload_n (pc := 9) cx qd_N_timer_9 rfl rfl ?_
  refine gz_getV (pc := 10) cx qf_N_62 qd_N_timer_10 (gm_N (by assumption)) rfl rfl (c2.2.2.1 i 11 hi (by decide) (by decide) (by decide)) ?_
  refine gz_iconst (v := -1) (pc := 13) cx qd_N_timer_13 (by decide) ?_
  refine gz_icmp_ne (tgt := 24) (pc := 14) cx qd_N_timer_14 (by decide) (fun h14 => ?_) (fun h14 => ?_)
  · obtain ⟨pr, hpp, hpr⟩ : isN G.1 ((mBury (mAge G.1 M i) i w G.1).1 21 i 0) := by
      rw [en 21 (by decide)] at h14 ⊢
      exact hni.2.2.resolve_left h14
    refine gz_aload_n (pc := 24) cx qd_N_timer_24 rfl rfl ?_
    refine gz_iload_n (pc := 25) cx qd_N_timer_25 rfl rfl ?_
    refine gz_callV (pc := 26) cx qv_N_211 qd_N_timer_26 (gc_N_goOnProbing hi c2 hpp hpr) (by decide) rfl (gm_N (by assumption)) rfl rfl rfl rfl (Nat.le_of_ble_eq_true rfl) ⟨Nat.zero_le _, Nat.zero_le _⟩ ?_
    rintro _ S3 ⟨rfl, c3, f3⟩
    refine tail _ _ c3 ((f1.tr f2).tr f3) (by rw [mGo_27, en 27 (by decide)]; exact hni.2.1) ?_
    unfold mTimer
    simp only []
    rw [if_neg h14]
  · refine gz_aload_n (pc := 17) cx qd_N_timer_17 rfl rfl ?_
    refine gz_callV (pc := 18) cx qv_N_208 qd_N_timer_18 (gc_N_restOrProbe hi c2 (by rw [en 22 (by decide)]; exact hni.1)) (by decide) rfl (gm_N (by assumption)) rfl rfl rfl rfl (Nat.le_of_ble_eq_true rfl) ⟨Nat.zero_le _, Nat.zero_le _⟩ ?_
    rintro _ S3 ⟨rfl, c3, f3⟩
    refine gz_goto (tgt := 29) (pc := 21) cx qd_N_timer_21 (by decide) ?_
    refine tail _ _ c3 ((f1.tr f2).tr f3) (by rw [mRest_27, en 27 (by decide)]; exact hni.2.1) ?_
    unfold mTimer
    simp only []
    rw [if_pos h14]
