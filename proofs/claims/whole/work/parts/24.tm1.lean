theorem sEnd_1 {S : gS} {i k len : Nat} {k2 : gK} {f : Nat} : (sEnd S i k len).1 k2 f = if k2 = (7, i, 0) ∧ f = 8 then nI (len - 1) else S.1 k2 f := rfl
theorem gc_N_nextBehind {G : gG} {la : Launch} {M : mM} {p i0 : Nat} {kc : Option (Nat × List Int32)} {S : gS} {i b : Nat} {w : Int32} (hi : i < G.1) (hb : b < G.1) (h : CR G M p i0 kc S) : gM G la qy_N_nextBehind qw_N_nextBehind 0 0 0 (gTt G) (gTt G) [.inr (some (7, i, 0)), .inl (nI b), .inl w] S (fun v S' => v = some (.inl (mB (mNext G.1 b (mOkS M i w)))) ∧ S' = S) := by
  refine gM_of (cc := qc_N_nextBehind) (maxL := 5) (by decide) rfl (Nat.le_of_ble_eq_true rfl) ?_
  intro E cx hr hnm hcz hsz hEl
  subst hEl
  have hst := h.1.1
  obtain ⟨hid, hcnt⟩ := h.1.2.2.2.1 i hi
  have h8 := h.1.2.1
  suffices hh : ∀ rem k, k + rem = G.1 + 1 → 1 ≤ k → mNext G.1 b (mOkS M i w) = mNextF G.1 b (mOkS M i w) rem k → gZ G E 0 0 (gEnd G E 0 0 (gTt G) (fun v S' => v = some (.inl (mB (mNext G.1 b (mOkS M i w)))) ∧ S' = S)) (gTt G) 2 [some (.inr (some (7, i, 0))), some (.inl (nI b)), some (.inl w), some (.inl (nI k)), none] [] S by
    refine gz_iconst (v := 1) (pc := 0) cx qd_N_nextBehind_0 (by decide) ?_
    refine gz_istore_n (pc := 1) cx qd_N_nextBehind_1 rfl (Nat.le_of_ble_eq_true rfl) ?_
    exact hh G.1 1 (by omega) (Nat.le_refl _) rfl
  intro rem
  induction rem with
  | zero =>
    intro k hk hk1 he
    refine gz_iload_n (pc := 2) cx qd_N_nextBehind_2 rfl rfl ?_
    refine gz_aload_n (pc := 3) cx qd_N_nextBehind_3 rfl rfl ?_
    refine gz_getV (pc := 4) cx qf_N_21 qd_N_nextBehind_4 (gm_N (by assumption)) rfl rfl hcnt ?_
    refine gz_icmp_gt (tgt := 65) (pc := 7) cx qd_N_nextBehind_7 (by decide) (fun _ => ?_) (fun h7 => absurd (show nI G.1 < nI k from nI_lt (by omega) (by omega)) h7)
    refine gz_iconst (v := -1) (pc := 65) cx qd_N_nextBehind_65 (by decide) ?_
    refine gz_ireturn (pc := 66) cx hr rfl qd_N_nextBehind_66 ?_
    exact ⟨by rw [he]; rfl, rfl⟩
  | succ rem ih =>
    intro k hk hk1 he
    have hmn : (b + k) % G.1 < G.1 := Nat.mod_lt _ (by omega)
    have e0 : S.1 (9, i, (b + k) % G.1) 0 = M.1 0 i ((b + k) % G.1) := h.2.1 i _ 0 hi hmn (by decide)
    have hmi : nI ((b + k) % G.1) = nI i ↔ (b + k) % G.1 = i := nI_eq (by omega) (by omega)
    refine gz_iload_n (pc := 2) cx qd_N_nextBehind_2 rfl rfl ?_
    refine gz_aload_n (pc := 3) cx qd_N_nextBehind_3 rfl rfl ?_
    refine gz_getV (pc := 4) cx qf_N_21 qd_N_nextBehind_4 (gm_N (by assumption)) rfl rfl hcnt ?_
    refine gz_icmp_gt (tgt := 65) (pc := 7) cx qd_N_nextBehind_7 (by decide) (fun h7 => absurd h7 (nI_nlt (by omega) (by omega))) (fun _ => ?_)
    refine gz_iload_n (pc := 10) cx qd_N_nextBehind_10 rfl rfl ?_
    refine gz_iload_n (pc := 11) cx qd_N_nextBehind_11 rfl rfl ?_
    refine gz_iadd (pc := 12) cx qd_N_nextBehind_12 ?_
    refine gz_aload_n (pc := 13) cx qd_N_nextBehind_13 rfl rfl ?_
    refine gz_getV (pc := 14) cx qf_N_21 qd_N_nextBehind_14 (gm_N (by assumption)) rfl rfl hcnt ?_
    refine gz_irem (pc := 17) cx qd_N_nextBehind_17 (nI_ne0 (by omega) (by omega)) ?_
    rw [nI_add, pk_rem (by omega) (by omega) (by omega)]
    refine gz_istore (pc := 18) cx qd_N_nextBehind_18 (Nat.le_of_ble_eq_true rfl) ?_
    refine gz_iload (pc := 20) cx qd_N_nextBehind_20 rfl ?_
    refine gz_aload_n (pc := 22) cx qd_N_nextBehind_22 rfl rfl ?_
    refine gz_getV (pc := 23) cx qf_N_17 qd_N_nextBehind_23 (gm_N (by assumption)) rfl rfl hid ?_
    refine gz_icmp_eq (tgt := 59) (pc := 26) cx qd_N_nextBehind_26 (by decide) (fun h26 => ?_) (fun h26 => ?_)
    · refine gz_iinc (pc := 59) cx qd_N_nextBehind_59 rfl (g_inc k) ?_
      refine gz_goto (tgt := 2) (pc := 62) cx qd_N_nextBehind_62 (by decide) ?_
      refine gz_weak (lv' := [some (.inr (some (7, i, 0))), some (.inl (nI b)), some (.inl w), some (.inl (nI (k + 1))), none]) ⟨rfl, rfl, rfl, rfl, trivial⟩ ?_
      refine ih (k + 1) (by omega) (by omega) ?_
      rw [he, mNextF, if_neg]
      unfold mOkS
      exact fun q => (of_decide_eq_true q).1 (hmi.mp h26)
    · refine gz_aload_n (pc := 29) cx qd_N_nextBehind_29 rfl rfl ?_
      refine gz_getR (pc := 30) cx qf_N_30 qd_N_nextBehind_30 (gm_N (by assumption)) rfl rfl (hst _ _ _ rfl) ?_
      refine gz_iload (pc := 33) cx qd_N_nextBehind_33 rfl ?_
      refine gz_aaload (pc := 35) cx qd_N_nextBehind_35 (by first | exact gm_tb (by assumption) | exact gm_ns | exact gm_cf | exact gm_w (by assumption) | exact gm_nw (by assumption) | exact gm_rs (by assumption) | exact gm_M (by assumption) | exact gm_R (by assumption) (by assumption) | exact gm_za (by decide) (by decide)) rfl ⟨by decide, by decide, rfl⟩ (hst _ _ _ rfl) rfl (by assumption) (by omega) ?_
      refine gz_getV (pc := 36) cx qf_N_86 qd_N_nextBehind_36 (gm_E (by assumption) (by assumption)) rfl rfl e0 ?_
      refine gz_if_eq (tgt := 59) (pc := 39) cx qd_N_nextBehind_39 (by decide) (fun h39 => ?_) (fun h39 => ?_)
      · refine gz_iinc (pc := 59) cx qd_N_nextBehind_59 rfl (g_inc k) ?_
        refine gz_goto (tgt := 2) (pc := 62) cx qd_N_nextBehind_62 (by decide) ?_
        refine gz_weak (lv' := [some (.inr (some (7, i, 0))), some (.inl (nI b)), some (.inl w), some (.inl (nI (k + 1))), none]) ⟨rfl, rfl, rfl, rfl, trivial⟩ ?_
        refine ih (k + 1) (by omega) (by omega) ?_
        rw [he, mNextF, if_neg]
        unfold mOkS
        exact fun q => (of_decide_eq_true q).2.1 h39
      · refine gz_aload_n (pc := 42) cx qd_N_nextBehind_42 rfl rfl ?_
        refine gz_getR (pc := 43) cx qf_N_30 qd_N_nextBehind_43 (gm_N (by assumption)) rfl rfl (hst _ _ _ rfl) ?_
        refine gz_iload (pc := 46) cx qd_N_nextBehind_46 rfl ?_
        refine gz_aaload (pc := 48) cx qd_N_nextBehind_48 (by first | exact gm_tb (by assumption) | exact gm_ns | exact gm_cf | exact gm_w (by assumption) | exact gm_nw (by assumption) | exact gm_rs (by assumption) | exact gm_M (by assumption) | exact gm_R (by assumption) (by assumption) | exact gm_za (by decide) (by decide)) rfl ⟨by decide, by decide, rfl⟩ (hst _ _ _ rfl) rfl (by assumption) (by omega) ?_
        refine gz_getV (pc := 49) cx qf_N_86 qd_N_nextBehind_49 (gm_E (by assumption) (by assumption)) rfl rfl e0 ?_
        refine gz_iload_n (pc := 52) cx qd_N_nextBehind_52 rfl rfl ?_
        refine gz_icmp_gt (tgt := 59) (pc := 53) cx qd_N_nextBehind_53 (by decide) (fun h53 => ?_) (fun h53 => ?_)
        · refine gz_iinc (pc := 59) cx qd_N_nextBehind_59 rfl (g_inc k) ?_
          refine gz_goto (tgt := 2) (pc := 62) cx qd_N_nextBehind_62 (by decide) ?_
          refine gz_weak (lv' := [some (.inr (some (7, i, 0))), some (.inl (nI b)), some (.inl w), some (.inl (nI (k + 1))), none]) ⟨rfl, rfl, rfl, rfl, trivial⟩ ?_
          refine ih (k + 1) (by omega) (by omega) ?_
          rw [he, mNextF, if_neg]
          unfold mOkS
          exact fun q => absurd h53 (Int32.not_lt.mpr (of_decide_eq_true q).2.2)
        · refine gz_iload (pc := 56) cx qd_N_nextBehind_56 rfl ?_
          refine gz_ireturn (pc := 58) cx hr rfl qd_N_nextBehind_58 ?_
          refine ⟨?_, rfl⟩
          rw [he, mNextF, if_pos]
          · rfl
          · unfold mOkS
            exact decide_eq_true ⟨fun q => h26 (hmi.mpr q), h39, Int32.not_lt.mp h53⟩
theorem gc_N_buryOverdue {G : gG} {la : Launch} {M : mM} {i0 : Nat} {kc : Option (Nat × List Int32)} {S : gS} {i : Nat} {w : Int32} (hi : i < G.1) (h : CR G M 0 i0 kc S) : gM G la qy_N_buryOverdue qw_N_buryOverdue 2 0 0 (gTt G) (gTt G) [.inr (some (7, i, 0)), .inl w] S (fun v S' => v = none ∧ CR G (mBury M i w G.1) 0 i0 kc S' ∧ gFr S S') := by
  refine gM_of (cc := qc_N_buryOverdue) (maxL := 5) (by decide) rfl (Nat.le_of_ble_eq_true rfl) ?_
  intro E cx hr hnm hcz hsz hEl
  subst hEl
  have h8 := h.1.2.1
  suffices hh : ∀ k, k ≤ G.1 → ∀ Sk, CR G (mBury M i w k) 0 i0 kc Sk → gFr S Sk → gZ G E 0 0 (gEnd G E 0 0 (gTt G) (fun v S' => v = none ∧ CR G (mBury M i w G.1) 0 i0 kc S' ∧ gFr S S')) (gTt G) 2 [some (.inr (some (7, i, 0))), some (.inl w), some (.inl (nI k)), none, none] [] Sk by
    refine gz_iconst (v := 0) (pc := 0) cx qd_N_buryOverdue_0 (by decide) ?_
    refine gz_istore_n (pc := 1) cx qd_N_buryOverdue_1 rfl (Nat.le_of_ble_eq_true rfl) ?_
    exact hh 0 (Nat.zero_le _) S h gFr.rf
  refine g_upto ?_ ?_
  · intro Sk hc hf
    obtain ⟨hid, hcnt⟩ := hc.1.2.2.2.1 i hi
    refine gz_iload_n (pc := 2) cx qd_N_buryOverdue_2 rfl rfl ?_
    refine gz_aload_n (pc := 3) cx qd_N_buryOverdue_3 rfl rfl ?_
    refine gz_getV (pc := 4) cx qf_N_21 qd_N_buryOverdue_4 (gm_N (by assumption)) rfl rfl hcnt ?_
    refine gz_icmp_ge (tgt := 79) (pc := 7) cx qd_N_buryOverdue_7 (by decide) (fun _ => ?_) (fun h7 => absurd (Int32.le_refl _) h7)
    refine gz_return (pc := 79) cx hr qd_N_buryOverdue_79 ?_
    exact ⟨rfl, hc, hf⟩
  · intro k hk ih Sk hc hf
    obtain ⟨hid, hcnt⟩ := hc.1.2.2.2.1 i hi
    have hst := hc.1.1
    have e0 := hc.2.1 i k 0 hi hk (by decide)
    have e1 := hc.2.1 i k 1 hi hk (by decide)
    have e2 := hc.2.1 i k 2 hi hk (by decide)
    have e3 := hc.2.1 i k 3 hi hk (by decide)
    have hmi : nI k = nI i ↔ k = i := nI_eq (by omega) (by omega)
    refine gz_iload_n (pc := 2) cx qd_N_buryOverdue_2 rfl rfl ?_
    refine gz_aload_n (pc := 3) cx qd_N_buryOverdue_3 rfl rfl ?_
    refine gz_getV (pc := 4) cx qf_N_21 qd_N_buryOverdue_4 (gm_N (by assumption)) rfl rfl hcnt ?_
    refine gz_icmp_ge (tgt := 79) (pc := 7) cx qd_N_buryOverdue_7 (by decide) (fun h7 => absurd h7 (nI_ge hk (by omega))) (fun _ => ?_)
    refine gz_aload_n (pc := 10) cx qd_N_buryOverdue_10 rfl rfl ?_
    refine gz_getR (pc := 11) cx qf_N_30 qd_N_buryOverdue_11 (gm_N (by assumption)) rfl rfl (hst _ _ _ rfl) ?_
    refine gz_iload_n (pc := 14) cx qd_N_buryOverdue_14 rfl rfl ?_
    refine gz_aaload (pc := 15) cx qd_N_buryOverdue_15 (by first | exact gm_tb (by assumption) | exact gm_ns | exact gm_cf | exact gm_w (by assumption) | exact gm_nw (by assumption) | exact gm_rs (by assumption) | exact gm_M (by assumption) | exact gm_R (by assumption) (by assumption) | exact gm_za (by decide) (by decide)) rfl ⟨by decide, by decide, rfl⟩ (hst _ _ _ rfl) rfl (by assumption) (by omega) ?_
    refine gz_astore_n (pc := 16) cx qd_N_buryOverdue_16 rfl (Nat.le_of_ble_eq_true rfl) ?_
    refine gz_iload_n (pc := 17) cx qd_N_buryOverdue_17 rfl rfl ?_
    refine gz_aload_n (pc := 18) cx qd_N_buryOverdue_18 rfl rfl ?_
    refine gz_getV (pc := 19) cx qf_N_17 qd_N_buryOverdue_19 (gm_N (by assumption)) rfl rfl hid ?_
    refine gz_icmp_eq (tgt := 73) (pc := 22) cx qd_N_buryOverdue_22 (by decide) (fun h22 => ?_) (fun h22 => ?_)
    · refine gz_iinc (pc := 73) cx qd_N_buryOverdue_73 rfl (g_inc k) ?_
      refine gz_goto (tgt := 2) (pc := 76) cx qd_N_buryOverdue_76 (by decide) ?_
      refine gz_weak (lv' := [some (.inr (some (7, i, 0))), some (.inl w), some (.inl (nI (k + 1))), none, none]) ⟨rfl, rfl, rfl, trivial⟩ ?_
      refine ih _ ?_ hf
      show CR G (mBury1 (mBury M i w k) i k w) _ _ _ _
      unfold mBury1
      rw [if_neg (fun q => q.1 (hmi.mp h22))]
      exact hc
    · refine gz_aload_n (pc := 25) cx qd_N_buryOverdue_25 rfl rfl ?_
      refine gz_getV (pc := 26) cx qf_N_86 qd_N_buryOverdue_26 (gm_E (by assumption) (by assumption)) rfl rfl e0 ?_
      refine gz_iconst (v := 2) (pc := 29) cx qd_N_buryOverdue_29 (by decide) ?_
      refine gz_icmp_ne (tgt := 73) (pc := 30) cx qd_N_buryOverdue_30 (by decide) (fun h30 => ?_) (fun h30 => ?_)
      · refine gz_iinc (pc := 73) cx qd_N_buryOverdue_73 rfl (g_inc k) ?_
        refine gz_goto (tgt := 2) (pc := 76) cx qd_N_buryOverdue_76 (by decide) ?_
        refine gz_weak (lv' := [some (.inr (some (7, i, 0))), some (.inl w), some (.inl (nI (k + 1))), none, none]) ⟨rfl, rfl, rfl, trivial⟩ ?_
        refine ih _ ?_ hf
        show CR G (mBury1 (mBury M i w k) i k w) _ _ _ _
        unfold mBury1
        rw [if_neg (fun q => h30 q.2.1)]
        exact hc
      · refine gz_iconst (v := 3) (pc := 33) cx qd_N_buryOverdue_33 (by decide) ?_
        refine gz_aload_n (pc := 34) cx qd_N_buryOverdue_34 rfl rfl ?_
        refine gz_getV (pc := 35) cx qf_N_174 qd_N_buryOverdue_35 (gm_E (by assumption) (by assumption)) rfl rfl e3 ?_
        refine gz_callS (pc := 38) cx qs_N_217 qd_N_buryOverdue_38 (gc_J_bitCount) (by decide) rfl rfl rfl (Nat.le_of_ble_eq_true rfl) ⟨Nat.zero_le _, Nat.zero_le _⟩ ?_
        rintro _ _ ⟨rfl, rfl⟩
        refine gz_min (pc := 41) cx qm_N_184 qm_min_s qm_i qm_min_c qd_N_buryOverdue_41 (by decide) rfl (Nat.le_of_ble_eq_true rfl) ⟨Nat.zero_le _, Nat.zero_le _⟩ ?_
        refine gz_istore (pc := 44) cx qd_N_buryOverdue_44 (Nat.le_of_ble_eq_true rfl) ?_
        refine gz_iload_n (pc := 46) cx qd_N_buryOverdue_46 rfl rfl ?_
        refine gz_aload_n (pc := 47) cx qd_N_buryOverdue_47 rfl rfl ?_
        refine gz_getV (pc := 48) cx qf_N_222 qd_N_buryOverdue_48 (gm_E (by assumption) (by assumption)) rfl rfl e2 ?_
        refine gz_isub (pc := 51) cx qd_N_buryOverdue_51 ?_
        refine gz_bipush (v := 24) (pc := 52) cx qd_N_buryOverdue_52 (by decide) ?_
        refine gz_bipush (v := 6) (pc := 54) cx qd_N_buryOverdue_54 (by decide) ?_
        refine gz_iload (pc := 56) cx qd_N_buryOverdue_56 rfl ?_
        refine gz_imul (pc := 58) cx qd_N_buryOverdue_58 ?_
        refine gz_isub (pc := 59) cx qd_N_buryOverdue_59 ?_
        refine gz_icmp_lt (tgt := 73) (pc := 60) cx qd_N_buryOverdue_60 (by decide) (fun h60 => ?_) (fun h60 => ?_)
        · refine gz_iinc (pc := 73) cx qd_N_buryOverdue_73 rfl (g_inc k) ?_
          refine gz_goto (tgt := 2) (pc := 76) cx qd_N_buryOverdue_76 (by decide) ?_
          refine gz_weak (lv' := [some (.inr (some (7, i, 0))), some (.inl w), some (.inl (nI (k + 1))), none, none]) ⟨rfl, rfl, rfl, trivial⟩ ?_
          refine ih _ ?_ hf
          show CR G (mBury1 (mBury M i w k) i k w) _ _ _ _
          unfold mBury1
          rw [if_neg (fun q => absurd h60 (Int32.not_lt.mpr q.2.2))]
          exact hc
        · refine gz_aload_n (pc := 63) cx qd_N_buryOverdue_63 rfl rfl ?_
          refine gz_iconst (v := 3) (pc := 64) cx qd_N_buryOverdue_64 (by decide) ?_
          refine gz_aload_n (pc := 65) cx qd_N_buryOverdue_65 rfl rfl ?_
          refine gz_getV (pc := 66) cx qf_N_83 qd_N_buryOverdue_66 (gm_E (by assumption) (by assumption)) rfl rfl e1 ?_
          refine gz_iload_n (pc := 69) cx qd_N_buryOverdue_69 rfl rfl ?_
          refine gz_callV (pc := 70) cx qv_N_39 qd_N_buryOverdue_70 (gc_E_become hi hk) (by decide) rfl (gm_E (by assumption) (by assumption)) rfl rfl rfl rfl (Nat.le_of_ble_eq_true rfl) ⟨Nat.zero_le _, Nat.zero_le _⟩ ?_
          rintro _ _ ⟨rfl, rfl⟩
          refine gz_iinc (pc := 73) cx qd_N_buryOverdue_73 rfl (g_inc k) ?_
          refine gz_goto (tgt := 2) (pc := 76) cx qd_N_buryOverdue_76 (by decide) ?_
          refine gz_weak (lv' := [some (.inr (some (7, i, 0))), some (.inl w), some (.inl (nI (k + 1))), none, none]) ⟨rfl, rfl, rfl, trivial⟩ ?_
          obtain ⟨c2, f2⟩ := hc.become (i := i) (j := k) 3 ((mBury M i w k).1 1 i k) w
          refine ih _ ?_ (hf.tr f2)
          show CR G (mBury1 (mBury M i w k) i k w) _ _ _ _
          unfold mBury1
          rw [if_pos ⟨fun q => h22 (hmi.mpr q), h30, Int32.not_lt.mp h60⟩]
          exact c2
theorem gc_N_ageRelays {G : gG} {la : Launch} {M : mM} {i0 : Nat} {kc : Option (Nat × List Int32)} {S : gS} {i : Nat} (hi : i < G.1) (h : CR G M 0 i0 kc S) : gM G la qy_N_ageRelays qw_N_ageRelays 3 0 0 (gTt G) (gTt G) [.inr (some (7, i, 0))] S (fun v S' => v = none ∧ CR G (mAge G.1 M i) 0 i0 kc S' ∧ gFr S S') := by
  refine gM_of (cc := qc_N_ageRelays) (maxL := 5) (by decide) rfl (Nat.le_of_ble_eq_true rfl) ?_
  intro E cx hr hnm hcz hsz hEl
  subst hEl
  have hlen4 : (M.2.1 i).length ≤ 4 := (h.2.2.2.1 i hi).choose_spec.1
  have hcount : S.1 (7, i, 0) 8 = nI (M.2.1 i).length := (h.2.2.2.1 i hi).choose_spec.2.1
  suffices hh : ∀ rem x k Mk Sk, x + rem = (M.2.1 i).length → k ≤ x → (Mk.2.1 i).length = k + rem → CR G Mk 0 i0 kc Sk → gFr S Sk → mAge G.1 M i = mAgeF G.1 i rem k Mk → gZ G E 0 0 (gEnd G E 0 0 (gTt G) (fun v S' => v = none ∧ CR G (mAge G.1 M i) 0 i0 kc S' ∧ gFr S S')) (gTt G) 9 [some (.inr (some (7, i, 0))), some (.inl (nI (M.2.1 i).length)), some (.inl (nI (x - k))), some (.inl (nI x)), none] [] Sk by
    refine gz_aload_n (pc := 0) cx qd_N_ageRelays_0 rfl rfl ?_
    refine gz_getV (pc := 1) cx qf_N_53 qd_N_ageRelays_1 (gm_N (by assumption)) rfl rfl hcount ?_
    refine gz_istore_n (pc := 4) cx qd_N_ageRelays_4 rfl (Nat.le_of_ble_eq_true rfl) ?_
    refine gz_iconst (v := 0) (pc := 5) cx qd_N_ageRelays_5 (by decide) ?_
    refine gz_istore_n (pc := 6) cx qd_N_ageRelays_6 rfl (Nat.le_of_ble_eq_true rfl) ?_
    refine gz_iconst (v := 0) (pc := 7) cx qd_N_ageRelays_7 (by decide) ?_
    refine gz_istore_n (pc := 8) cx qd_N_ageRelays_8 rfl (Nat.le_of_ble_eq_true rfl) ?_
    exact hh (M.2.1 i).length 0 0 M S (by omega) (Nat.le_refl _) (by omega) h gFr.rf rfl
  intro rem
  induction rem with
  | zero =>
    intro x k Mk Sk hx hkx hl hc hf he
    obtain rfl : x = (M.2.1 i).length := by omega
    refine gz_iload_n (pc := 9) cx qd_N_ageRelays_9 rfl rfl ?_
    refine gz_iload_n (pc := 10) cx qd_N_ageRelays_10 rfl rfl ?_
    refine gz_icmp_ge (tgt := 85) (pc := 11) cx qd_N_ageRelays_11 (by decide) (fun _ => ?_) (fun h11 => absurd (Int32.le_refl _) h11)
    refine gz_return (pc := 85) cx hr qd_N_ageRelays_85 ?_
    exact ⟨rfl, by rw [he]; exact hc, hf⟩
  | succ rem ih =>
    intro x k Mk Sk hx hkx hl hc hf he
    have hst := hc.1.1
    obtain ⟨ρ, a1, a2, a3, a4, a5⟩ := hc.2.2.2.1 i hi
    have hk : k < (Mk.2.1 i).length := by omega
    have hk4 : k < 4 := by omega
    have hsub : nI x - nI (x - k) = nI k := by rw [pk_sub (by omega)]; exact congrArg nI (by omega)
    obtain ⟨c1, f1⟩ := hc.aged hi hk (a3 k hk4).1
    have ea : (mAged (Mk.2.1 i) k).length = (Mk.2.1 i).length := by rw [mAged, List.length_set]
    have er1 : (mRl Mk i (mAged (Mk.2.1 i) k)).2.1 i = mAged (Mk.2.1 i) k := if_pos rfl
    refine gz_iload_n (pc := 9) cx qd_N_ageRelays_9 rfl rfl ?_
    refine gz_iload_n (pc := 10) cx qd_N_ageRelays_10 rfl rfl ?_
    refine gz_icmp_ge (tgt := 85) (pc := 11) cx qd_N_ageRelays_11 (by decide) (fun h11 => absurd h11 (nI_ge (by omega) (by omega))) (fun _ => ?_)
    refine gz_aload_n (pc := 14) cx qd_N_ageRelays_14 rfl rfl ?_
    refine gz_getR (pc := 15) cx qf_N_13 qd_N_ageRelays_15 (gm_N (by assumption)) rfl rfl (hst _ _ _ rfl) ?_
    refine gz_iload_n (pc := 18) cx qd_N_ageRelays_18 rfl rfl ?_
    refine gz_iload_n (pc := 19) cx qd_N_ageRelays_19 rfl rfl ?_
    refine gz_isub (pc := 20) cx qd_N_ageRelays_20 ?_
    refine gz_aaload (pc := 21) cx qd_N_ageRelays_21 (by first | exact gm_tb (by assumption) | exact gm_ns | exact gm_cf | exact gm_w (by assumption) | exact gm_nw (by assumption) | exact gm_rs (by assumption) | exact gm_M (by assumption) | exact gm_R (by assumption) (by assumption) | exact gm_za (by decide) (by decide)) rfl ⟨by decide, by decide, rfl⟩ (a3 k hk4).1 hsub hk4 (by decide) ?_
    refine gz_astore (pc := 22) cx qd_N_ageRelays_22 (Nat.le_of_ble_eq_true rfl) ?_
    refine gz_aload (pc := 24) cx qd_N_ageRelays_24 rfl ?_
    refine gz_dup (pc := 26) cx qd_N_ageRelays_26 ?_
    refine gz_getV (pc := 27) cx qf_N_199 qd_N_ageRelays_27 (gm_R hi (a3 k hk4).2) rfl rfl (a5 k hk 3 (by decide)) ?_
    refine gz_iconst (v := 1) (pc := 30) cx qd_N_ageRelays_30 (by decide) ?_
    refine gz_iadd (pc := 31) cx qd_N_ageRelays_31 ?_
    refine gz_putI (pc := 32) cx qp_N_199 qd_N_ageRelays_32 (gm_R hi (a3 k hk4).2) rfl rfl ⟨rfl, rfl⟩ (fun h => nomatch h) ?_
    refine gz_aload (pc := 35) cx qd_N_ageRelays_35 rfl ?_
    refine gz_getV (pc := 37) cx qf_N_199 qd_N_ageRelays_37 (gm_R hi (a3 k hk4).2) rfl rfl (if_pos ⟨rfl, rfl⟩) ?_
    refine gz_iconst (v := 3) (pc := 40) cx qd_N_ageRelays_40 (by decide) ?_
    refine gz_icmp_lt (tgt := 79) (pc := 41) cx qd_N_ageRelays_41 (by decide) (fun h41 => ?_) (fun h41 => ?_)
    · refine gz_iinc (pc := 79) cx qd_N_ageRelays_79 rfl (g_inc x) ?_
      refine gz_goto (tgt := 9) (pc := 82) cx qd_N_ageRelays_82 (by decide) ?_
      refine gz_weak (lv' := [some (.inr (some (7, i, 0))), some (.inl (nI (M.2.1 i).length)), some (.inl (nI (x + 1 - (k + 1)))), some (.inl (nI (x + 1))), none]) ⟨rfl, rfl, congrArg (fun z : Nat => (some (.inl (nI z)) : Option gV)) (show x - k = x + 1 - (k + 1) by omega), rfl, trivial⟩ ?_
      refine ih (x + 1) (k + 1) _ _ (by omega) (by omega) (by rw [er1, ea]; omega) c1 (hf.tr f1) ?_
      rw [he, mAgeF, if_pos h41]
    · refine gz_aload_n (pc := 44) cx qd_N_ageRelays_44 rfl rfl ?_
      refine gz_iload_n (pc := 45) cx qd_N_ageRelays_45 rfl rfl ?_
      refine gz_iload_n (pc := 46) cx qd_N_ageRelays_46 rfl rfl ?_
      refine gz_isub (pc := 47) cx qd_N_ageRelays_47 ?_
      rw [hsub]
      refine gz_callV (pc := 48) cx qv_N_193 qd_N_ageRelays_48 (gc_N_endRelay (ρ := ρ) (len := (Mk.2.1 i).length) (S := (gI Sk (11, i, ρ k) 3 (((Mk.2.1 i).getD k []).getD 3 0 + 1))) hi hst a1 hk (by rw [gI1, if_neg (fun q => by simp at q)]; exact a2) a3) (by decide) rfl (gm_N (by assumption)) rfl rfl rfl rfl (Nat.le_of_ble_eq_true rfl) ⟨Nat.zero_le _, Nat.zero_le _⟩ ?_
      rintro _ _ ⟨rfl, rfl⟩
      obtain ⟨c2, f2⟩ := c1.endRelay (k := k) hi (by rw [er1, ea]; exact hk)
      rw [er1, ea] at c2 f2
      have v1 : ∀ f, f < 3 → (sEnd (gI Sk (11, i, ρ k) 3 (((Mk.2.1 i).getD k []).getD 3 0 + 1)) i k (Mk.2.1 i).length).1 (11, i, ρ k) f = ((Mk.2.1 i).getD k []).getD f 0 := by
        intro f hf3
        rw [sEnd_1, if_neg (fun q => by simp at q), gI1, if_neg (fun q => by omega)]
        exact a5 k hk f (by omega)
      refine gz_iinc (pc := 51) cx qd_N_ageRelays_51 rfl ((g_inc (x - k)).trans (congrArg nI (show x - k + 1 = x + 1 - k by omega))) ?_
      refine gz_aload_n (pc := 54) cx qd_N_ageRelays_54 rfl rfl ?_
      refine gz_iconst (v := 4) (pc := 55) cx qd_N_ageRelays_55 (by decide) ?_
      refine gz_aload (pc := 56) cx qd_N_ageRelays_56 rfl ?_
      refine gz_getV (pc := 58) cx qf_N_197 qd_N_ageRelays_58 (gm_R hi (a3 k hk4).2) rfl rfl (v1 1 (by decide)) ?_
      refine gz_aload (pc := 61) cx qd_N_ageRelays_61 rfl ?_
      refine gz_getV (pc := 63) cx qf_N_196 qd_N_ageRelays_63 (gm_R hi (a3 k hk4).2) rfl rfl (v1 0 (by decide)) ?_
      refine gz_aload (pc := 66) cx qd_N_ageRelays_66 rfl ?_
      refine gz_getV (pc := 68) cx qf_N_197 qd_N_ageRelays_68 (gm_R hi (a3 k hk4).2) rfl rfl (v1 1 (by decide)) ?_
      refine gz_aload (pc := 71) cx qd_N_ageRelays_71 rfl ?_
      refine gz_getV (pc := 73) cx qf_N_198 qd_N_ageRelays_73 (gm_R hi (a3 k hk4).2) rfl rfl (v1 2 (by decide)) ?_
      refine gz_callV (pc := 76) cx qv_N_89 qd_N_ageRelays_76 (gc_send hi c2 (Or.inl rfl)) (by decide) rfl (gm_N (by assumption)) rfl rfl rfl rfl (Nat.le_of_ble_eq_true rfl) ⟨Nat.zero_le _, Nat.zero_le _⟩ ?_
      rintro _ S' ⟨rfl, c3, f3⟩
      refine gz_iinc (pc := 79) cx qd_N_ageRelays_79 rfl (g_inc x) ?_
      refine gz_goto (tgt := 9) (pc := 82) cx qd_N_ageRelays_82 (by decide) ?_
      refine gz_weak (lv' := [some (.inr (some (7, i, 0))), some (.inl (nI (M.2.1 i).length)), some (.inl (nI (x + 1 - k))), some (.inl (nI (x + 1))), none]) ⟨rfl, rfl, rfl, rfl, trivial⟩ ?_
      refine ih (x + 1) k _ _ (by omega) (by omega) ?_ c3 (((hf.tr f1).tr f2).tr f3) ?_
      · rw [mSend_r]
        show (if i = i then _ else _ : List (List Int32)).length = _
        rw [if_pos rfl, List.length_eraseIdx_of_lt (by rw [ea]; exact hk), ea]; omega
      · rw [he, mAgeF, if_neg h41]
