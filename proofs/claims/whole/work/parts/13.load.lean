theorem g_swap {A B : Prop} (h : B = A) (b : B) : A := h ▸ b
theorem gc_N_mostToSend {G : gG} {la : Launch} {S : gS} {i : Nat} {mk : Int32} {l : List Nat} (hi : i < G.1) (hK : cK G S) (hmk : isMk mk l) : gM G la qy_N_mostToSend qw_N_mostToSend 0 0 0 (gTt G) (gTt G) [.inr (some (7, i, 0)), .inl mk] S (fun v S' => v = some (.inl (mB (mBest (qm S i l) G.1))) ∧ S' = S) := by
  refine gM_of (cc := qc_N_mostToSend) (maxL := 5) (by decide) rfl (Nat.le_of_ble_eq_true rfl) ?_
  intro E cx hr hnm hcz hsz hEl
  subst hEl
  obtain ⟨hst, h8, h2, hid, -⟩ := hK
  have hcnt := (hid i hi).2
  obtain ⟨y, hy, rfl, hm⟩ := hmk
  suffices h : ∀ k, k ≤ G.1 → (fun k => gZ G E 0 0 (gEnd G E 0 0 (gTt G) (fun v S' => v = some (.inl (mB (mBest (qm S i l) G.1))) ∧ S' = S)) (gTt G) 7 [some (.inr (some (7, i, 0))), some (.inl (nI y)), some (.inl (mB (mBest (qm S i l) k))), some (.inl (mV (qm S i l) (mBest (qm S i l) k))), some (.inl (nI k))] [] S) k by
    refine gz_iconst (v := -1) (pc := 0) cx qd_N_mostToSend_0 (by decide) ?_
    refine gz_istore_n (pc := 1) cx qd_N_mostToSend_1 rfl (Nat.le_of_ble_eq_true rfl) ?_
    refine gz_iconst (v := 0) (pc := 2) cx qd_N_mostToSend_2 (by decide) ?_
    refine gz_istore_n (pc := 3) cx qd_N_mostToSend_3 rfl (Nat.le_of_ble_eq_true rfl) ?_
    refine gz_iconst (v := 0) (pc := 4) cx qd_N_mostToSend_4 (by decide) ?_
    refine gz_istore (pc := 5) cx qd_N_mostToSend_5 (Nat.le_of_ble_eq_true rfl) ?_
    exact h 0 (Nat.zero_le _)
  refine g_upto ?_ ?_
  · refine gz_iload (pc := 7) cx qd_N_mostToSend_7 rfl ?_
    refine gz_aload_n (pc := 9) cx qd_N_mostToSend_9 rfl rfl ?_
    refine gz_getI (pc := 10) cx qf_N_21 qd_N_mostToSend_10 (gm_N (by assumption)) rfl rfl ?_
    refine gz_icmp_ge (tgt := 59) (pc := 13) cx qd_N_mostToSend_13 (by decide) (fun _ => ?_) (fun h13 => absurd (by rw [hcnt]; exact Int32.le_refl _) h13)
    refine gz_iload_n (pc := 59) cx qd_N_mostToSend_59 rfl rfl ?_
    refine gz_ireturn (pc := 60) cx hr rfl qd_N_mostToSend_60 ?_
    exact ⟨rfl, rfl⟩
  · intro k hk ih
    have hk8 : k < 8 := by omega
    refine gz_iload (pc := 7) cx qd_N_mostToSend_7 rfl ?_
    refine gz_aload_n (pc := 9) cx qd_N_mostToSend_9 rfl rfl ?_
    refine gz_getI (pc := 10) cx qf_N_21 qd_N_mostToSend_10 (gm_N (by assumption)) rfl rfl ?_
    refine gz_icmp_ge (tgt := 59) (pc := 13) cx qd_N_mostToSend_13 (by decide) (fun h13 => absurd h13 (by rw [hcnt]; exact nI_ge hk (by omega))) (fun _ => ?_)
    refine gz_iload_n (pc := 16) cx qd_N_mostToSend_16 rfl rfl ?_
    refine gz_iload (pc := 17) cx qd_N_mostToSend_17 rfl ?_
    refine gz_ishr (pc := 19) cx qd_N_mostToSend_19 ?_
    refine gz_iconst (v := 1) (pc := 20) cx qd_N_mostToSend_20 (by decide) ?_
    refine gz_iand (pc := 21) cx qd_N_mostToSend_21 ?_
    refine gz_if_ne (tgt := 53) (pc := 22) cx qd_N_mostToSend_22 (by decide) (fun h22 => ?_) (fun h22 => ?_)
    · skip
      refine gz_iinc (pc := 53) cx qd_N_mostToSend_53 rfl (g_inc k) ?_
      refine gz_goto (tgt := 7) (pc := 56) cx qd_N_mostToSend_56 (by decide) ?_
      refine g_swap ?_ ih
      have e : mBest (qm S i l) (k + 1) = mBest (qm S i l) k := by
        have hin : k ∈ l := Classical.byContradiction (fun q => h22 ((hm k hk8).mpr q))
        have hq : qm S i l k = 0 := if_pos hin
        rw [mBest_step, hq, if_neg]
        cases hb : mBest (qm S i l) k with
        | none => exact Int32.lt_irrefl
        | some b => exact Int32.lt_asymm (mBest_lt hb).2
      rw [e]
      rfl
    · refine gz_aload_n (pc := 25) cx qd_N_mostToSend_25 rfl rfl ?_
      refine gz_getR (pc := 26) cx qf_N_30 qd_N_mostToSend_26 (gm_N (by assumption)) rfl rfl (hst _ _ _ rfl) ?_
      refine gz_iload (pc := 29) cx qd_N_mostToSend_29 rfl ?_
      refine gz_aaload (pc := 31) cx qd_N_mostToSend_31 (by first | exact gm_tb (by assumption) | exact gm_ns | exact gm_cf | exact gm_w (by assumption) | exact gm_nw (by assumption) | exact gm_rs (by assumption) | exact gm_M (by assumption) | exact gm_R (by assumption) (by assumption) | exact gm_za (by decide) (by decide)) rfl ⟨by decide, by decide, rfl⟩ (hst _ _ _ rfl) rfl (by assumption) (by omega) ?_
      refine gz_getI (pc := 32) cx qf_N_122 qd_N_mostToSend_32 (gm_E (by assumption) (by assumption)) rfl rfl ?_
      refine gz_iload_n (pc := 35) cx qd_N_mostToSend_35 rfl rfl ?_
      refine gz_icmp_le (tgt := 53) (pc := 36) cx qd_N_mostToSend_36 (by decide) (fun h36 => ?_) (fun h36 => ?_)
      · skip
        refine gz_iinc (pc := 53) cx qd_N_mostToSend_53 rfl (g_inc k) ?_
        refine gz_goto (tgt := 7) (pc := 56) cx qd_N_mostToSend_56 (by decide) ?_
        refine g_swap ?_ ih
        have hni : k ∉ l := (hm k hk8).mp h22
        have hq : qm S i l k = S.1 (9, i, k) 4 := if_neg hni
        have e : mBest (qm S i l) (k + 1) = mBest (qm S i l) k := by
          rw [mBest_step, hq, if_neg (Int32.not_lt.mpr h36)]
        rw [e]
        rfl
      · refine gz_iload (pc := 39) cx qd_N_mostToSend_39 rfl ?_
        refine gz_istore_n (pc := 41) cx qd_N_mostToSend_41 rfl (Nat.le_of_ble_eq_true rfl) ?_
        refine gz_aload_n (pc := 42) cx qd_N_mostToSend_42 rfl rfl ?_
        refine gz_getR (pc := 43) cx qf_N_30 qd_N_mostToSend_43 (gm_N (by assumption)) rfl rfl (hst _ _ _ rfl) ?_
        refine gz_iload (pc := 46) cx qd_N_mostToSend_46 rfl ?_
        refine gz_aaload (pc := 48) cx qd_N_mostToSend_48 (by first | exact gm_tb (by assumption) | exact gm_ns | exact gm_cf | exact gm_w (by assumption) | exact gm_nw (by assumption) | exact gm_rs (by assumption) | exact gm_M (by assumption) | exact gm_R (by assumption) (by assumption) | exact gm_za (by decide) (by decide)) rfl ⟨by decide, by decide, rfl⟩ (hst _ _ _ rfl) rfl (by assumption) (by omega) ?_
        refine gz_getI (pc := 49) cx qf_N_122 qd_N_mostToSend_49 (gm_E (by assumption) (by assumption)) rfl rfl ?_
        refine gz_istore_n (pc := 52) cx qd_N_mostToSend_52 rfl (Nat.le_of_ble_eq_true rfl) ?_
        skip
        refine gz_iinc (pc := 53) cx qd_N_mostToSend_53 rfl (g_inc k) ?_
        refine gz_goto (tgt := 7) (pc := 56) cx qd_N_mostToSend_56 (by decide) ?_
        refine g_swap ?_ ih
        have hni : k ∉ l := (hm k hk8).mp h22
        have hq : qm S i l k = S.1 (9, i, k) 4 := if_neg hni
        have e : mBest (qm S i l) (k + 1) = some k := by
          rw [mBest_step, hq, if_pos (Int32.not_le.mp h36)]
        rw [e, ← hq]
        rfl
theorem gc_N_loadTable {G : gG} {la : Launch} {S : gS} {i a : Nat} (hi : i < G.1) (ha : a < 121) (hK : cK G S) (hc : S.1 (5, a, 0) 6 = 0) : gM G la qy_N_loadTable qw_N_loadTable 1 0 0 (gTt G) (gTt G) [.inr (some (7, i, 0)), .inr (some (5, a, 0))] S (fun v S' => v = none ∧ S' = sLoad a i (mTab S i G.1) 0 S) := by
  refine gM_of (cc := qc_N_loadTable) (maxL := 3) (by decide) rfl (Nat.le_of_ble_eq_true rfl) ?_
  intro E cx hr hnm hcz hsz hEl
  subst hEl
  have h8 := hK.2.1
  suffices h : ∀ k, k ≤ G.1 → (fun k => gZ G E 0 0 (gEnd G E 0 0 (gTt G) (fun v S' => v = none ∧ S' = sLoad a i (mTab S i G.1) 0 S)) (gTt G) 2 [some (.inr (some (7, i, 0))), some (.inr (some (5, a, 0))), some (.inl (nI k))] [] (sLoad a i (mTab S i k) 0 S)) k by
    refine gz_iconst (v := 0) (pc := 0) cx qd_N_loadTable_0 (by decide) ?_
    refine gz_istore_n (pc := 1) cx qd_N_loadTable_1 rfl (Nat.le_of_ble_eq_true rfl) ?_
    exact h 0 (Nat.zero_le _)
  refine g_upto ?_ ?_
  · obtain ⟨hst, -, -, hid, -⟩ := (hK.load : cK G (sLoad a i (mTab S i G.1) 0 S))
    have hcnt := (hid i hi).2
    refine gz_iload_n (pc := 2) cx qd_N_loadTable_2 rfl rfl ?_
    refine gz_aload_n (pc := 3) cx qd_N_loadTable_3 rfl rfl ?_
    refine gz_getI (pc := 4) cx qf_N_21 qd_N_loadTable_4 (gm_N (by assumption)) rfl rfl ?_
    refine gz_icmp_ge (tgt := 39) (pc := 7) cx qd_N_loadTable_7 (by decide) (fun _ => ?_) (fun h7 => absurd (by rw [hcnt]; exact Int32.le_refl _) h7)
    refine gz_return (pc := 39) cx hr qd_N_loadTable_39 ?_
    exact ⟨rfl, rfl⟩
  · intro k hk ih
    obtain ⟨hst, -, -, hid, -⟩ := (hK.load : cK G (sLoad a i (mTab S i k) 0 S))
    have hcnt := (hid i hi).2
    have hlen := mTab_len S i k
    have hcc : (sLoad a i (mTab S i k) 0 S).1 (5, a, 0) 6 = nI (mTab S i k).length := by rw [sLoad_c (c := 0) hc, Nat.zero_add]
    have hso : (sLoad a i (mTab S i k) 0 S).1 (9, i, k) 0 = S.1 (9, i, k) 0 := sLoad_off (by simp) (fun q => by cases q)
    refine gz_iload_n (pc := 2) cx qd_N_loadTable_2 rfl rfl ?_
    refine gz_aload_n (pc := 3) cx qd_N_loadTable_3 rfl rfl ?_
    refine gz_getI (pc := 4) cx qf_N_21 qd_N_loadTable_4 (gm_N (by assumption)) rfl rfl ?_
    refine gz_icmp_ge (tgt := 39) (pc := 7) cx qd_N_loadTable_7 (by decide) (fun h7 => absurd h7 (by rw [hcnt]; exact nI_ge hk (by omega))) (fun _ => ?_)
    refine gz_aload_n (pc := 10) cx qd_N_loadTable_10 rfl rfl ?_
    refine gz_getR (pc := 11) cx qf_N_30 qd_N_loadTable_11 (gm_N (by assumption)) rfl rfl (hst _ _ _ rfl) ?_
    refine gz_iload_n (pc := 14) cx qd_N_loadTable_14 rfl rfl ?_
    refine gz_aaload (pc := 15) cx qd_N_loadTable_15 (by first | exact gm_tb (by assumption) | exact gm_ns | exact gm_cf | exact gm_w (by assumption) | exact gm_nw (by assumption) | exact gm_rs (by assumption) | exact gm_M (by assumption) | exact gm_R (by assumption) (by assumption) | exact gm_za (by decide) (by decide)) rfl ⟨by decide, by decide, rfl⟩ (hst _ _ _ rfl) rfl (by assumption) (by omega) ?_
    refine gz_getI (pc := 16) cx qf_N_86 qd_N_loadTable_16 (gm_E (by assumption) (by assumption)) rfl rfl ?_
    refine gz_if_eq (tgt := 33) (pc := 19) cx qd_N_loadTable_19 (by decide) (fun h19 => ?_) (fun h19 => ?_)
    · refine gz_iinc (pc := 33) cx qd_N_loadTable_33 rfl (g_inc k) ?_
      refine gz_goto (tgt := 2) (pc := 36) cx qd_N_loadTable_36 (by decide) ?_
      refine g_swap ?_ ih
      rw [hso] at h19
      rw [mTab_s, if_pos h19]
      rfl
    · refine gz_aload_n (pc := 22) cx qd_N_loadTable_22 rfl rfl ?_
      refine gz_iload_n (pc := 23) cx qd_N_loadTable_23 rfl rfl ?_
      refine gz_aload_n (pc := 24) cx qd_N_loadTable_24 rfl rfl ?_
      refine gz_getR (pc := 25) cx qf_N_30 qd_N_loadTable_25 (gm_N (by assumption)) rfl rfl (hst _ _ _ rfl) ?_
      refine gz_iload_n (pc := 28) cx qd_N_loadTable_28 rfl rfl ?_
      refine gz_aaload (pc := 29) cx qd_N_loadTable_29 (by first | exact gm_tb (by assumption) | exact gm_ns | exact gm_cf | exact gm_w (by assumption) | exact gm_nw (by assumption) | exact gm_rs (by assumption) | exact gm_M (by assumption) | exact gm_R (by assumption) (by assumption) | exact gm_za (by decide) (by decide)) rfl ⟨by decide, by decide, rfl⟩ (hst _ _ _ rfl) rfl (by assumption) (by omega) ?_
      refine gz_callV (pc := 30) cx qv_N_114 qd_N_loadTable_30 (gc_M_carry (c := (mTab S i k).length) ha hi hk hst hcc (by omega)) (by decide) rfl (gm_M (by assumption)) rfl rfl rfl rfl (Nat.le_of_ble_eq_true rfl) ⟨Nat.zero_le _, Nat.zero_le _⟩ ?_
      rintro _ _ ⟨rfl, rfl⟩
      refine gz_iinc (pc := 33) cx qd_N_loadTable_33 rfl (g_inc k) ?_
      refine gz_goto (tgt := 2) (pc := 36) cx qd_N_loadTable_36 (by decide) ?_
      refine g_swap ?_ ih
      rw [hso] at h19
      rw [mTab_s, if_neg h19, sLoad_app, Nat.zero_add]
      rfl
