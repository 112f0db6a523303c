theorem gc_M_address {G : gG} {la : Launch} {S : gS} {a : Nat} {k s r : Int32} (ha : a < 121) : gM G la qy_M_address qw_M_address 0 0 0 (gTt G) (gTt G) [.inr (some (5, a, 0)), .inl k, .inl s, .inl r] S (fun v S' => v = none ∧ S' = gI (gI (gI (gI S (5, a, 0) 0 k) (5, a, 0) 1 s) (5, a, 0) 2 r) (5, a, 0) 6 0) := by
  refine gM_of (cc := qc_M_address) (maxL := 4) (by decide) rfl (Nat.le_of_ble_eq_true rfl) ?_
  intro E cx hr hnm hcz hsz hEl
  subst hEl
  refine gz_aload_n (pc := 0) cx qd_M_address_0 rfl rfl ?_
  refine gz_iload_n (pc := 1) cx qd_M_address_1 rfl rfl ?_
  refine gz_putI (pc := 2) cx qp_M_15 qd_M_address_2 (gm_M (by assumption)) rfl rfl ⟨rfl, rfl⟩ (fun h => nomatch h) ?_
  refine gz_aload_n (pc := 5) cx qd_M_address_5 rfl rfl ?_
  refine gz_iload_n (pc := 6) cx qd_M_address_6 rfl rfl ?_
  refine gz_putI (pc := 7) cx qp_M_19 qd_M_address_7 (gm_M (by assumption)) rfl rfl ⟨rfl, rfl⟩ (fun h => nomatch h) ?_
  refine gz_aload_n (pc := 10) cx qd_M_address_10 rfl rfl ?_
  refine gz_iload_n (pc := 11) cx qd_M_address_11 rfl rfl ?_
  refine gz_putI (pc := 12) cx qp_M_22 qd_M_address_12 (gm_M (by assumption)) rfl rfl ⟨rfl, rfl⟩ (fun h => nomatch h) ?_
  refine gz_aload_n (pc := 15) cx qd_M_address_15 rfl rfl ?_
  refine gz_iconst (v := 0) (pc := 16) cx qd_M_address_16 (by decide) ?_
  refine gz_putI (pc := 17) cx qp_M_25 qd_M_address_17 (gm_M (by assumption)) rfl rfl ⟨rfl, rfl⟩ (fun h => nomatch h) ?_
  refine gz_return (pc := 20) cx hr qd_M_address_20 ?_
  exact ⟨rfl, rfl⟩
theorem gc_M_concern {G : gG} {la : Launch} {S : gS} {a : Nat} {k s r : Int32} (ha : a < 121) : gM G la qy_M_concern qw_M_concern 0 0 0 (gTt G) (gTt G) [.inr (some (5, a, 0)), .inl k, .inl s, .inl r] S (fun v S' => v = none ∧ S' = gI (gI (gI S (5, a, 0) 3 k) (5, a, 0) 4 s) (5, a, 0) 5 r) := by
  refine gM_of (cc := qc_M_concern) (maxL := 4) (by decide) rfl (Nat.le_of_ble_eq_true rfl) ?_
  intro E cx hr hnm hcz hsz hEl
  subst hEl
  refine gz_aload_n (pc := 0) cx qd_M_concern_0 rfl rfl ?_
  refine gz_iload_n (pc := 1) cx qd_M_concern_1 rfl rfl ?_
  refine gz_putI (pc := 2) cx qp_M_28 qd_M_concern_2 (gm_M (by assumption)) rfl rfl ⟨rfl, rfl⟩ (fun h => nomatch h) ?_
  refine gz_aload_n (pc := 5) cx qd_M_concern_5 rfl rfl ?_
  refine gz_iload_n (pc := 6) cx qd_M_concern_6 rfl rfl ?_
  refine gz_putI (pc := 7) cx qp_M_31 qd_M_concern_7 (gm_M (by assumption)) rfl rfl ⟨rfl, rfl⟩ (fun h => nomatch h) ?_
  refine gz_aload_n (pc := 10) cx qd_M_concern_10 rfl rfl ?_
  refine gz_iload_n (pc := 11) cx qd_M_concern_11 rfl rfl ?_
  refine gz_putI (pc := 12) cx qp_M_34 qd_M_concern_12 (gm_M (by assumption)) rfl rfl ⟨rfl, rfl⟩ (fun h => nomatch h) ?_
  refine gz_return (pc := 15) cx hr qd_M_concern_15 ?_
  exact ⟨rfl, rfl⟩
theorem gc_M_carry {G : gG} {la : Launch} {S : gS} {a c i m : Nat} (ha : a < 121) (hi : i < G.1) (hm : m < G.1) (hst : gSt G S) (hc : S.1 (5, a, 0) 6 = nI c) (hc8 : c < 8) : gM G la qy_M_carry qw_M_carry 0 0 0 (gTt G) (gTt G) [.inr (some (5, a, 0)), .inl (nI m), .inr (some (9, i, m))] S (fun v S' => v = none ∧ S' = sCarry S a c i m) := by
  refine gM_of (cc := qc_M_carry) (maxL := 4) (by decide) rfl (Nat.le_of_ble_eq_true rfl) ?_
  intro E cx hr hnm hcz hsz hEl
  subst hEl
  have e3 : (3 : Int32) * S.1 (5, a, 0) 6 = nI (3 * c) := by rw [hc]; exact pk_mul 3 c
  have e4 : (3 : Int32) * S.1 (5, a, 0) 6 + 1 = nI (3 * c + 1) := by rw [e3]; exact (nI_succ _).symm
  have e5 : (3 : Int32) * S.1 (5, a, 0) 6 + 2 = nI (3 * c + 2) := by rw [e3]; exact nI_add (3 * c) 2
  refine gz_aload_n (pc := 0) cx qd_M_carry_0 rfl rfl ?_
  refine gz_getI (pc := 1) cx qf_M_25 qd_M_carry_1 (gm_M (by assumption)) rfl rfl ?_
  refine gz_bipush (v := 8) (pc := 4) cx qd_M_carry_4 (by decide) ?_
  refine gz_icmp_lt (tgt := 10) (pc := 6) cx qd_M_carry_6 (by decide) (fun _ => ?_) (fun h6 => absurd (show _ < (8 : Int32) by rw [hc]; exact nI_lt hc8 (by decide)) h6)
  refine gz_iconst (v := 3) (pc := 10) cx qd_M_carry_10 (by decide) ?_
  refine gz_aload_n (pc := 11) cx qd_M_carry_11 rfl rfl ?_
  refine gz_getI (pc := 12) cx qf_M_25 qd_M_carry_12 (gm_M (by assumption)) rfl rfl ?_
  refine gz_imul (pc := 15) cx qd_M_carry_15 ?_
  refine gz_istore_n (pc := 16) cx qd_M_carry_16 rfl (Nat.le_of_ble_eq_true rfl) ?_
  refine gz_aload_n (pc := 17) cx qd_M_carry_17 rfl rfl ?_
  refine gz_getR (pc := 18) cx qf_M_11 qd_M_carry_18 (gm_M (by assumption)) rfl rfl (hst _ _ _ rfl) ?_
  refine gz_iload_n (pc := 21) cx qd_M_carry_21 rfl rfl ?_
  refine gz_iload_n (pc := 22) cx qd_M_carry_22 rfl rfl ?_
  refine gz_iastore (pc := 23) cx qd_M_carry_23 (by first | exact gm_tb (by assumption) | exact gm_ns | exact gm_cf | exact gm_w (by assumption) | exact gm_nw (by assumption) | exact gm_rs (by assumption) | exact gm_M (by assumption) | exact gm_R (by assumption) (by assumption) | exact gm_za (by decide) (by decide)) rfl e3 (by omega) (by decide) ?_
  refine gz_aload_n (pc := 24) cx qd_M_carry_24 rfl rfl ?_
  refine gz_getR (pc := 25) cx qf_M_11 qd_M_carry_25 (gm_M (by assumption)) rfl rfl (hst _ _ _ rfl) ?_
  refine gz_iload_n (pc := 28) cx qd_M_carry_28 rfl rfl ?_
  refine gz_iconst (v := 1) (pc := 29) cx qd_M_carry_29 (by decide) ?_
  refine gz_iadd (pc := 30) cx qd_M_carry_30 ?_
  refine gz_aload_n (pc := 31) cx qd_M_carry_31 rfl rfl ?_
  refine gz_getI (pc := 32) cx qf_M_37 qd_M_carry_32 (gm_E (by assumption) (by assumption)) rfl rfl ?_
  refine gz_iastore (pc := 35) cx qd_M_carry_35 (by first | exact gm_tb (by assumption) | exact gm_ns | exact gm_cf | exact gm_w (by assumption) | exact gm_nw (by assumption) | exact gm_rs (by assumption) | exact gm_M (by assumption) | exact gm_R (by assumption) (by assumption) | exact gm_za (by decide) (by decide)) rfl e4 (by omega) (by decide) ?_
  refine gz_aload_n (pc := 36) cx qd_M_carry_36 rfl rfl ?_
  refine gz_getR (pc := 37) cx qf_M_11 qd_M_carry_37 (gm_M (by assumption)) rfl rfl (hst _ _ _ rfl) ?_
  refine gz_iload_n (pc := 40) cx qd_M_carry_40 rfl rfl ?_
  refine gz_iconst (v := 2) (pc := 41) cx qd_M_carry_41 (by decide) ?_
  refine gz_iadd (pc := 42) cx qd_M_carry_42 ?_
  refine gz_aload_n (pc := 43) cx qd_M_carry_43 rfl rfl ?_
  refine gz_getI (pc := 44) cx qf_M_42 qd_M_carry_44 (gm_E (by assumption) (by assumption)) rfl rfl ?_
  refine gz_iastore (pc := 47) cx qd_M_carry_47 (by first | exact gm_tb (by assumption) | exact gm_ns | exact gm_cf | exact gm_w (by assumption) | exact gm_nw (by assumption) | exact gm_rs (by assumption) | exact gm_M (by assumption) | exact gm_R (by assumption) (by assumption) | exact gm_za (by decide) (by decide)) rfl e5 (by omega) (by decide) ?_
  refine gz_aload_n (pc := 48) cx qd_M_carry_48 rfl rfl ?_
  refine gz_dup (pc := 49) cx qd_M_carry_49 ?_
  refine gz_getI (pc := 50) cx qf_M_25 qd_M_carry_50 (gm_M (by assumption)) rfl rfl ?_
  refine gz_iconst (v := 1) (pc := 53) cx qd_M_carry_53 (by decide) ?_
  refine gz_iadd (pc := 54) cx qd_M_carry_54 ?_
  refine gz_putI (pc := 55) cx qp_M_25 qd_M_carry_55 (gm_M (by assumption)) rfl rfl ⟨rfl, rfl⟩ (fun h => nomatch h) ?_
  refine gz_return (pc := 58) cx hr qd_M_carry_58 ?_
  refine ⟨rfl, ?_⟩
  simp only [gI1]
  simp [hc, sCarry, nI_succ]
theorem gc_M_tellNews {G : gG} {la : Launch} {S : gS} {a c : Nat} {x : Int32} (ha : a < 121) (hst : gSt G S) (hc : S.1 (5, a, 0) 6 = nI c) (hc8 : c ≤ 8) : gM G la qy_M_tellNews qw_M_tellNews 0 0 0 (gTt G) (gTt G) [.inr (some (5, a, 0)), .inl x] S (fun v S' => v = some (.inl (if x < 7 ∨ nI (7 + 3 * c) ≤ x then 0 else S.1 (6, a, 0) (x - 7).toNatClampNeg)) ∧ S' = S) := by
  refine gM_of (cc := qc_M_tellNews) (maxL := 2) (by decide) rfl (Nat.le_of_ble_eq_true rfl) ?_
  intro E cx hr hnm hcz hsz hEl
  subst hEl
  have e3 : (7 : Int32) + 3 * S.1 (5, a, 0) 6 = nI (7 + 3 * c) := by rw [hc]; exact (congrArg (fun z => (7 : Int32) + z) (pk_mul 3 c)).trans (nI_add 7 (3 * c))
  refine gz_iload_n (pc := 0) cx qd_M_tellNews_0 rfl rfl ?_
  refine gz_bipush (v := 7) (pc := 1) cx qd_M_tellNews_1 (by decide) ?_
  refine gz_icmp_lt (tgt := 19) (pc := 3) cx qd_M_tellNews_3 (by decide) (fun h3 => ?_) (fun h3 => ?_)
  · refine gz_iconst (v := 0) (pc := 19) cx qd_M_tellNews_19 (by decide) ?_
    refine gz_ireturn (pc := 20) cx hr rfl qd_M_tellNews_20 ?_
    refine ⟨?_, rfl⟩
    rw [if_pos (by first | exact Or.inl (by assumption) | exact Or.inr (by rw [← e3]; exact Int32.not_lt.mp (by assumption)))]
  · refine gz_iload_n (pc := 6) cx qd_M_tellNews_6 rfl rfl ?_
    refine gz_bipush (v := 7) (pc := 7) cx qd_M_tellNews_7 (by decide) ?_
    refine gz_iconst (v := 3) (pc := 9) cx qd_M_tellNews_9 (by decide) ?_
    refine gz_aload_n (pc := 10) cx qd_M_tellNews_10 rfl rfl ?_
    refine gz_getI (pc := 11) cx qf_M_25 qd_M_tellNews_11 (gm_M (by assumption)) rfl rfl ?_
    refine gz_imul (pc := 14) cx qd_M_tellNews_14 ?_
    refine gz_iadd (pc := 15) cx qd_M_tellNews_15 ?_
    refine gz_icmp_lt (tgt := 21) (pc := 16) cx qd_M_tellNews_16 (by decide) (fun h16 => ?_) (fun h16 => ?_)
    · obtain ⟨j, hj24, hxj⟩ : ∃ j : Nat, j < 24 ∧ x - 7 = nI j := by
        rw [e3] at h16
        obtain ⟨y, hy, rfl⟩ := nI_of (x := x) (fun q => h3 (Int32.lt_trans q (by decide)))
        have h7 : ¬ y < 7 := fun q => h3 (nI_lt q (by decide))
        have h8 : y < 7 + 3 * c := (nI_ltI hy (by omega)).mp h16
        exact ⟨y - 7, by omega, pk_sub (b := 7) (by omega)⟩
      refine gz_aload_n (pc := 21) cx qd_M_tellNews_21 rfl rfl ?_
      refine gz_getR (pc := 22) cx qf_M_11 qd_M_tellNews_22 (gm_M (by assumption)) rfl rfl (hst _ _ _ rfl) ?_
      refine gz_iload_n (pc := 25) cx qd_M_tellNews_25 rfl rfl ?_
      refine gz_bipush (v := 7) (pc := 26) cx qd_M_tellNews_26 (by decide) ?_
      refine gz_isub (pc := 28) cx qd_M_tellNews_28 ?_
      refine gz_iaload (pc := 29) cx qd_M_tellNews_29 (by first | exact gm_tb (by assumption) | exact gm_ns | exact gm_cf | exact gm_w (by assumption) | exact gm_nw (by assumption) | exact gm_rs (by assumption) | exact gm_M (by assumption) | exact gm_R (by assumption) (by assumption) | exact gm_za (by decide) (by decide)) rfl hxj hj24 (by decide) ?_
      refine gz_ireturn (pc := 30) cx hr rfl qd_M_tellNews_30 ?_
      refine ⟨?_, rfl⟩
      rw [if_neg (fun q => q.elim h3 (fun q => absurd h16 (by rw [e3]; exact Int32.not_lt.mpr q)))]
      rw [hxj, nI_clamp (by omega)]
    · refine gz_iconst (v := 0) (pc := 19) cx qd_M_tellNews_19 (by decide) ?_
      refine gz_ireturn (pc := 20) cx hr rfl qd_M_tellNews_20 ?_
      refine ⟨?_, rfl⟩
      rw [if_pos (by first | exact Or.inl (by assumption) | exact Or.inr (by rw [← e3]; exact Int32.not_lt.mp (by assumption)))]
theorem gc_R_isFor {G : gG} {la : Launch} {S : gS} {i r a : Nat} (hi : i < G.1) (hr4 : r < 4) (ha : a < 121) : gM G la qy_R_isFor qw_R_isFor 0 0 0 (gTt G) (gTt G) [.inr (some (11, i, r)), .inr (some (5, a, 0))] S (fun v S' => v = some (.inl (bI (decide (S.1 (11, i, r) 0 = S.1 (5, a, 0) 3 ∧ S.1 (11, i, r) 1 = S.1 (5, a, 0) 4 ∧ S.1 (11, i, r) 2 = S.1 (5, a, 0) 5)))) ∧ S' = S) := by
  refine gM_of (cc := qc_R_isFor) (maxL := 2) (by decide) rfl (Nat.le_of_ble_eq_true rfl) ?_
  intro E cx hr hnm hcz hsz hEl
  subst hEl
  refine gz_aload_n (pc := 0) cx qd_R_isFor_0 rfl rfl ?_
  refine gz_getI (pc := 1) cx qf_R_7 qd_R_isFor_1 (gm_R (by assumption) (by assumption)) rfl rfl ?_
  refine gz_aload_n (pc := 4) cx qd_R_isFor_4 rfl rfl ?_
  refine gz_getI (pc := 5) cx qf_R_13 qd_R_isFor_5 (gm_M (by assumption)) rfl rfl ?_
  refine gz_icmp_ne (tgt := 37) (pc := 8) cx qd_R_isFor_8 (by decide) (fun h8 => ?_) (fun h8 => ?_)
  · refine gz_iconst (v := 0) (pc := 37) cx qd_R_isFor_37 (by decide) ?_
    refine gz_ireturn (pc := 38) cx hr (by decide) qd_R_isFor_38 ?_
    refine ⟨?_, rfl⟩
    simp_all [bI]
  · refine gz_aload_n (pc := 11) cx qd_R_isFor_11 rfl rfl ?_
    refine gz_getI (pc := 12) cx qf_R_16 qd_R_isFor_12 (gm_R (by assumption) (by assumption)) rfl rfl ?_
    refine gz_aload_n (pc := 15) cx qd_R_isFor_15 rfl rfl ?_
    refine gz_getI (pc := 16) cx qf_R_19 qd_R_isFor_16 (gm_M (by assumption)) rfl rfl ?_
    refine gz_icmp_ne (tgt := 37) (pc := 19) cx qd_R_isFor_19 (by decide) (fun h19 => ?_) (fun h19 => ?_)
    · refine gz_iconst (v := 0) (pc := 37) cx qd_R_isFor_37 (by decide) ?_
      refine gz_ireturn (pc := 38) cx hr (by decide) qd_R_isFor_38 ?_
      refine ⟨?_, rfl⟩
      simp_all [bI]
    · refine gz_aload_n (pc := 22) cx qd_R_isFor_22 rfl rfl ?_
      refine gz_getI (pc := 23) cx qf_R_20 qd_R_isFor_23 (gm_R (by assumption) (by assumption)) rfl rfl ?_
      refine gz_aload_n (pc := 26) cx qd_R_isFor_26 rfl rfl ?_
      refine gz_getI (pc := 27) cx qf_R_23 qd_R_isFor_27 (gm_M (by assumption)) rfl rfl ?_
      refine gz_icmp_ne (tgt := 37) (pc := 30) cx qd_R_isFor_30 (by decide) (fun h30 => ?_) (fun h30 => ?_)
      · refine gz_iconst (v := 0) (pc := 37) cx qd_R_isFor_37 (by decide) ?_
        refine gz_ireturn (pc := 38) cx hr (by decide) qd_R_isFor_38 ?_
        refine ⟨?_, rfl⟩
        simp_all [bI]
      · refine gz_iconst (v := 1) (pc := 33) cx qd_R_isFor_33 (by decide) ?_
        refine gz_goto (tgt := 38) (pc := 34) cx qd_R_isFor_34 (by decide) ?_
        refine gz_ireturn (pc := 38) cx hr (by decide) qd_R_isFor_38 ?_
        refine ⟨?_, rfl⟩
        simp_all [bI]
theorem gc_F_next {G : gG} {la : Launch} {S : gS} {b z a : Nat} (hb : b < 2) (hw : S.2 (3, 0, 0) 0 = some (4, b, 0)) (hz : S.1 (3, 0, 0) 3 = nI z) (hz60 : z < 60) (hst : gSt G S) (ha : S.2 (4, b, 0) z = some (5, a, 0)) : gM G la qy_F_next qw_F_next 0 0 0 (gTt G) (gTt G) [.inr (some (3, 0, 0))] S (fun v S' => v = some (.inr (some (5, a, 0))) ∧ S' = gI S (3, 0, 0) 3 (nI (z + 1))) := by
  refine gM_of (cc := qc_F_next) (maxL := 1) (by decide) rfl (Nat.le_of_ble_eq_true rfl) ?_
  intro E cx hr hnm hcz hsz hEl
  subst hEl
  refine gz_aload_n (pc := 0) cx qd_F_next_0 rfl rfl ?_
  refine gz_getI (pc := 1) cx qf_F_23 qd_F_next_1 gm_F rfl rfl ?_
  refine gz_bipush (v := 60) (pc := 4) cx qd_F_next_4 (by decide) ?_
  refine gz_icmp_lt (tgt := 14) (pc := 6) cx qd_F_next_6 (by decide) (fun _ => ?_) (fun h6 => absurd (show _ < (60 : Int32) by rw [hz]; exact nI_lt hz60 (by decide)) h6)
  refine gz_aload_n (pc := 14) cx qd_F_next_14 rfl rfl ?_
  refine gz_dup (pc := 15) cx qd_F_next_15 ?_
  refine gz_getI (pc := 16) cx qf_F_23 qd_F_next_16 gm_F rfl rfl ?_
  refine gz_iconst (v := 1) (pc := 19) cx qd_F_next_19 (by decide) ?_
  refine gz_iadd (pc := 20) cx qd_F_next_20 ?_
  refine gz_putI (pc := 21) cx qp_F_23 qd_F_next_21 gm_F rfl rfl ⟨rfl, rfl⟩ (fun h => nomatch h) ?_
  refine gz_aload_n (pc := 24) cx qd_F_next_24 rfl rfl ?_
  refine gz_getR (pc := 25) cx qf_F_11 qd_F_next_25 gm_F rfl rfl (by assumption) ?_
  refine gz_aload_n (pc := 28) cx qd_F_next_28 rfl rfl ?_
  refine gz_getI (pc := 29) cx qf_F_23 qd_F_next_29 gm_F rfl rfl ?_
  refine gz_iconst (v := 1) (pc := 32) cx qd_F_next_32 (by decide) ?_
  refine gz_isub (pc := 33) cx qd_F_next_33 ?_
  refine gz_aaload (pc := 34) cx qd_F_next_34 (by first | exact gm_tb (by assumption) | exact gm_ns | exact gm_cf | exact gm_w (by assumption) | exact gm_nw (by assumption) | exact gm_rs (by assumption) | exact gm_M (by assumption) | exact gm_R (by assumption) (by assumption) | exact gm_za (by decide) (by decide)) rfl ⟨by decide, by decide, rfl⟩ ha (show _ = nI z by simp only [gI1]; simp [hz, g_sub1]) (by assumption) (by decide) ?_
  refine gz_areturn (pc := 35) cx hr qd_F_next_35 ?_
  exact ⟨rfl, by rw [hz, nI_succ]⟩
theorem gc_F_nextFull {G : gG} {la : Launch} {S : gS} (hst : gSt G S) (hz : S.1 (3, 0, 0) 3 = nI 60) : gM G la qy_F_next qw_F_next 0 0 0 (gTt G) (gTt G) [.inr (some (3, 0, 0))] S (fun v S' => v = some (.inr (some (5, 120, 0))) ∧ S' = S) := by
  refine gM_of (cc := qc_F_next) (maxL := 1) (by decide) rfl (Nat.le_of_ble_eq_true rfl) ?_
  intro E cx hr hnm hcz hsz hEl
  subst hEl
  refine gz_aload_n (pc := 0) cx qd_F_next_0 rfl rfl ?_
  refine gz_getI (pc := 1) cx qf_F_23 qd_F_next_1 gm_F rfl rfl ?_
  refine gz_bipush (v := 60) (pc := 4) cx qd_F_next_4 (by decide) ?_
  refine gz_icmp_lt (tgt := 14) (pc := 6) cx qd_F_next_6 (by decide) (fun h6 => absurd h6 (by rw [hz]; decide)) (fun _ => ?_)
  refine gz_aload_n (pc := 9) cx qd_F_next_9 rfl rfl ?_
  refine gz_getR (pc := 10) cx qf_F_19 qd_F_next_10 gm_F rfl rfl (hst _ _ _ rfl) ?_
  refine gz_areturn (pc := 13) cx hr qd_F_next_13 ?_
  exact ⟨rfl, rfl⟩
theorem gc_F_land {G : gG} {la : Launch} {S : gS} {b c : Nat} (hw : S.2 (3, 0, 0) 0 = some (4, b, 0)) (hl : S.2 (3, 0, 0) 1 = some (4, c, 0)) : gM G la qy_F_land qw_F_land 0 0 0 (gTt G) (gTt G) [.inr (some (3, 0, 0))] S (fun v S' => v = some (.inl (S.1 (3, 0, 0) 3)) ∧ S' = gI (gX (gX S (3, 0, 0) 1 (some (4, b, 0))) (3, 0, 0) 0 (some (4, c, 0))) (3, 0, 0) 3 0) := by
  refine gM_of (cc := qc_F_land) (maxL := 3) (by decide) rfl (Nat.le_of_ble_eq_true rfl) ?_
  intro E cx hr hnm hcz hsz hEl
  subst hEl
  refine gz_aload_n (pc := 0) cx qd_F_land_0 rfl rfl ?_
  refine gz_getR (pc := 1) cx qf_F_15 qd_F_land_1 gm_F rfl rfl (by assumption) ?_
  refine gz_astore_n (pc := 4) cx qd_F_land_4 rfl (Nat.le_of_ble_eq_true rfl) ?_
  refine gz_aload_n (pc := 5) cx qd_F_land_5 rfl rfl ?_
  refine gz_aload_n (pc := 6) cx qd_F_land_6 rfl rfl ?_
  refine gz_getR (pc := 7) cx qf_F_11 qd_F_land_7 gm_F rfl rfl (by assumption) ?_
  refine gz_putR (pc := 10) cx qp_F_15 qd_F_land_10 gm_F rfl rfl (fun x => by cases x <;> exact ⟨rfl, rfl⟩) (fun h => nomatch h) ?_
  refine gz_aload_n (pc := 13) cx qd_F_land_13 rfl rfl ?_
  refine gz_aload_n (pc := 14) cx qd_F_land_14 rfl rfl ?_
  refine gz_putR (pc := 15) cx qp_F_11 qd_F_land_15 gm_F rfl rfl (fun x => by cases x <;> exact ⟨rfl, rfl⟩) (fun h => nomatch h) ?_
  refine gz_aload_n (pc := 18) cx qd_F_land_18 rfl rfl ?_
  refine gz_getI (pc := 19) cx qf_F_23 qd_F_land_19 gm_F rfl rfl ?_
  refine gz_istore_n (pc := 22) cx qd_F_land_22 rfl (Nat.le_of_ble_eq_true rfl) ?_
  refine gz_aload_n (pc := 23) cx qd_F_land_23 rfl rfl ?_
  refine gz_iconst (v := 0) (pc := 24) cx qd_F_land_24 (by decide) ?_
  refine gz_putI (pc := 25) cx qp_F_23 qd_F_land_25 gm_F rfl rfl ⟨rfl, rfl⟩ (fun h => nomatch h) ?_
  refine gz_iload_n (pc := 28) cx qd_F_land_28 rfl rfl ?_
  refine gz_ireturn (pc := 29) cx hr rfl qd_F_land_29 ?_
  exact ⟨rfl, rfl⟩
theorem gc_N_raiseScore {G : gG} {la : Launch} {S : gS} {i : Nat} {x : Int32} (hi : i < G.1) : gM G la qy_N_raiseScore qw_N_raiseScore 1 0 0 (gTt G) (gTt G) [.inr (some (7, i, 0)), .inl x] S (fun v S' => v = none ∧ S' = gI S (7, i, 0) 7 (if S.1 (7, i, 0) 7 + x < 4 then S.1 (7, i, 0) 7 + x else 4)) := by
  refine gM_of (cc := qc_N_raiseScore) (maxL := 2) (by decide) rfl (Nat.le_of_ble_eq_true rfl) ?_
  intro E cx hr hnm hcz hsz hEl
  subst hEl
  refine gz_aload_n (pc := 0) cx qd_N_raiseScore_0 rfl rfl ?_
  refine gz_iconst (v := 4) (pc := 1) cx qd_N_raiseScore_1 (by decide) ?_
  refine gz_aload_n (pc := 2) cx qd_N_raiseScore_2 rfl rfl ?_
  refine gz_getI (pc := 3) cx qf_N_50 qd_N_raiseScore_3 (gm_N (by assumption)) rfl rfl ?_
  refine gz_iload_n (pc := 6) cx qd_N_raiseScore_6 rfl rfl ?_
  refine gz_iadd (pc := 7) cx qd_N_raiseScore_7 ?_
  refine gz_min (pc := 8) cx qm_N_184 qm_min_s qm_i qm_min_c qd_N_raiseScore_8 (by decide) rfl (Nat.le_of_ble_eq_true rfl) ⟨Nat.zero_le _, Nat.zero_le _⟩ ?_
  refine gz_putI (pc := 11) cx qp_N_50 qd_N_raiseScore_11 (gm_N (by assumption)) rfl rfl ⟨rfl, rfl⟩ (fun h => nomatch h) ?_
  refine gz_return (pc := 14) cx hr qd_N_raiseScore_14 ?_
  exact ⟨rfl, rfl⟩
theorem gc_N_isOfProbe {G : gG} {la : Launch} {S : gS} {i a : Nat} (hi : i < G.1) (ha : a < 121) : gM G la qy_N_isOfProbe qw_N_isOfProbe 0 0 0 (gTt G) (gTt G) [.inr (some (7, i, 0)), .inr (some (5, a, 0))] S (fun v S' => v = some (.inl (bI (decide (S.1 (7, i, 0) 11 ≠ -1 ∧ S.1 (5, a, 0) 3 = S.1 (7, i, 0) 10)))) ∧ S' = S) := by
  refine gM_of (cc := qc_N_isOfProbe) (maxL := 2) (by decide) rfl (Nat.le_of_ble_eq_true rfl) ?_
  intro E cx hr hnm hcz hsz hEl
  subst hEl
  refine gz_aload_n (pc := 0) cx qd_N_isOfProbe_0 rfl rfl ?_
  refine gz_getI (pc := 1) cx qf_N_62 qd_N_isOfProbe_1 (gm_N (by assumption)) rfl rfl ?_
  refine gz_iconst (v := -1) (pc := 4) cx qd_N_isOfProbe_4 (by decide) ?_
  refine gz_icmp_eq (tgt := 23) (pc := 5) cx qd_N_isOfProbe_5 (by decide) (fun h5 => ?_) (fun h5 => ?_)
  · refine gz_iconst (v := 0) (pc := 23) cx qd_N_isOfProbe_23 (by decide) ?_
    refine gz_ireturn (pc := 24) cx hr (by decide) qd_N_isOfProbe_24 ?_
    refine ⟨?_, rfl⟩
    simp_all [bI]
  · refine gz_aload_n (pc := 8) cx qd_N_isOfProbe_8 rfl rfl ?_
    refine gz_getI (pc := 9) cx qf_N_141 qd_N_isOfProbe_9 (gm_M (by assumption)) rfl rfl ?_
    refine gz_aload_n (pc := 12) cx qd_N_isOfProbe_12 rfl rfl ?_
    refine gz_getI (pc := 13) cx qf_N_59 qd_N_isOfProbe_13 (gm_N (by assumption)) rfl rfl ?_
    refine gz_icmp_ne (tgt := 23) (pc := 16) cx qd_N_isOfProbe_16 (by decide) (fun h16 => ?_) (fun h16 => ?_)
    · refine gz_iconst (v := 0) (pc := 23) cx qd_N_isOfProbe_23 (by decide) ?_
      refine gz_ireturn (pc := 24) cx hr (by decide) qd_N_isOfProbe_24 ?_
      refine ⟨?_, rfl⟩
      simp_all [bI]
    · refine gz_iconst (v := 1) (pc := 19) cx qd_N_isOfProbe_19 (by decide) ?_
      refine gz_goto (tgt := 24) (pc := 20) cx qd_N_isOfProbe_20 (by decide) ?_
      refine gz_ireturn (pc := 24) cx hr (by decide) qd_N_isOfProbe_24 ?_
      refine ⟨?_, rfl⟩
      simp_all [bI]
def bitC (x0 : Int32) : Int32 :=
  let u := fun (x y : Int32) => (x.toUInt32 >>> (y.toUInt32 &&& Int32.toUInt32 31)).toInt32
  let x1 := x0 - (u x0 1 &&& 1431655765)
  let x2 := (x1 &&& 858993459) + (u x1 2 &&& 858993459)
  let x3 := (x2 + u x2 4) &&& 252645135
  let x4 := x3 + u x3 8
  let x5 := x4 + u x4 16
  x5 &&& 63
theorem gc_J_bitCount {G : gG} {la : Launch} {S : gS} {x : Int32}  : gM G la qy_J_bitCount qw_J_bitCount 0 0 0 (gTt G) (gTt G) [.inl x] S (fun v S' => v = some (.inl (bitC x)) ∧ S' = S) := by
  refine gM_of (cc := qc_J_bitCount) (maxL := 1) (by decide) rfl (Nat.le_of_ble_eq_true rfl) ?_
  intro E cx hr hnm hcz hsz hEl
  subst hEl
  refine gz_iload_n (pc := 0) cx qd_J_bitCount_0 rfl rfl ?_
  refine gz_iload_n (pc := 1) cx qd_J_bitCount_1 rfl rfl ?_
  refine gz_iconst (v := 1) (pc := 2) cx qd_J_bitCount_2 (by decide) ?_
  refine gz_iushr (pc := 3) cx qd_J_bitCount_3 rfl ?_
  refine gz_ldcw (pc := 4) cx qk_J_265 qd_J_bitCount_4 ?_
  refine gz_iand (pc := 7) cx qd_J_bitCount_7 ?_
  refine gz_isub (pc := 8) cx qd_J_bitCount_8 ?_
  refine gz_istore_n (pc := 9) cx qd_J_bitCount_9 rfl (Nat.le_of_ble_eq_true rfl) ?_
  refine gz_iload_n (pc := 10) cx qd_J_bitCount_10 rfl rfl ?_
  refine gz_ldcw (pc := 11) cx qk_J_266 qd_J_bitCount_11 ?_
  refine gz_iand (pc := 14) cx qd_J_bitCount_14 ?_
  refine gz_iload_n (pc := 15) cx qd_J_bitCount_15 rfl rfl ?_
  refine gz_iconst (v := 2) (pc := 16) cx qd_J_bitCount_16 (by decide) ?_
  refine gz_iushr (pc := 17) cx qd_J_bitCount_17 rfl ?_
  refine gz_ldcw (pc := 18) cx qk_J_266 qd_J_bitCount_18 ?_
  refine gz_iand (pc := 21) cx qd_J_bitCount_21 ?_
  refine gz_iadd (pc := 22) cx qd_J_bitCount_22 ?_
  refine gz_istore_n (pc := 23) cx qd_J_bitCount_23 rfl (Nat.le_of_ble_eq_true rfl) ?_
  refine gz_iload_n (pc := 24) cx qd_J_bitCount_24 rfl rfl ?_
  refine gz_iload_n (pc := 25) cx qd_J_bitCount_25 rfl rfl ?_
  refine gz_iconst (v := 4) (pc := 26) cx qd_J_bitCount_26 (by decide) ?_
  refine gz_iushr (pc := 27) cx qd_J_bitCount_27 rfl ?_
  refine gz_iadd (pc := 28) cx qd_J_bitCount_28 ?_
  refine gz_ldcw (pc := 29) cx qk_J_267 qd_J_bitCount_29 ?_
  refine gz_iand (pc := 32) cx qd_J_bitCount_32 ?_
  refine gz_istore_n (pc := 33) cx qd_J_bitCount_33 rfl (Nat.le_of_ble_eq_true rfl) ?_
  refine gz_iload_n (pc := 34) cx qd_J_bitCount_34 rfl rfl ?_
  refine gz_iload_n (pc := 35) cx qd_J_bitCount_35 rfl rfl ?_
  refine gz_bipush (v := 8) (pc := 36) cx qd_J_bitCount_36 (by decide) ?_
  refine gz_iushr (pc := 38) cx qd_J_bitCount_38 rfl ?_
  refine gz_iadd (pc := 39) cx qd_J_bitCount_39 ?_
  refine gz_istore_n (pc := 40) cx qd_J_bitCount_40 rfl (Nat.le_of_ble_eq_true rfl) ?_
  refine gz_iload_n (pc := 41) cx qd_J_bitCount_41 rfl rfl ?_
  refine gz_iload_n (pc := 42) cx qd_J_bitCount_42 rfl rfl ?_
  refine gz_bipush (v := 16) (pc := 43) cx qd_J_bitCount_43 (by decide) ?_
  refine gz_iushr (pc := 45) cx qd_J_bitCount_45 rfl ?_
  refine gz_iadd (pc := 46) cx qd_J_bitCount_46 ?_
  refine gz_istore_n (pc := 47) cx qd_J_bitCount_47 rfl (Nat.le_of_ble_eq_true rfl) ?_
  refine gz_iload_n (pc := 48) cx qd_J_bitCount_48 rfl rfl ?_
  refine gz_bipush (v := 63) (pc := 49) cx qd_J_bitCount_49 (by decide) ?_
  refine gz_iand (pc := 51) cx qd_J_bitCount_51 ?_
  refine gz_ireturn (pc := 52) cx hr rfl qd_J_bitCount_52 ?_
  exact ⟨rfl, rfl⟩
def sTellE (S : gS) (i j : Nat) (x : Int32) : Int32 := if x = 0 then S.1 (9, i, j) 0 else if x = 1 then S.1 (9, i, j) 1 else if x = 2 then S.1 (9, i, j) 2 else if x = 3 then bitC (S.1 (9, i, j) 3) else 0
theorem gc_E_tell {G : gG} {la : Launch} {S : gS} {i j : Nat} {x : Int32} (hi : i < G.1) (hj : j < G.1) : gM G la qy_E_tell qw_E_tell 1 0 0 (gTt G) (gTt G) [.inr (some (9, i, j)), .inl x] S (fun v S' => v = some (.inl (sTellE S i j x)) ∧ S' = S) := by
  refine gM_of (cc := qc_E_tell) (maxL := 2) (by decide) rfl (Nat.le_of_ble_eq_true rfl) ?_
  intro E cx hr hnm hcz hsz hEl
  subst hEl
  have hI := hi
  refine gz_iload_n (pc := 0) cx qd_E_tell_0 rfl rfl ?_
  refine gz_switch (pc := 1) cx 3 (fun i => [32, 37, 42, 47].getD i 0) 55 qd_E_tell_1 (by decide) (by intro i hi; match i, hi with
    | 0, _ => exact ⟨_, rfl, by decide⟩
    | 1, _ => exact ⟨_, rfl, by decide⟩
    | 2, _ => exact ⟨_, rfl, by decide⟩
    | 3, _ => exact ⟨_, rfl, by decide⟩
    | i + 4, hi => exact absurd hi (by omega)) (by decide) (fun i hi hx => ?_) (fun hx => ?_)
  · match i, hi with
    | 0, _ =>
      subst hx
      refine gz_aload_n (pc := 32) cx qd_E_tell_32 rfl rfl ?_
      refine gz_getI (pc := 33) cx qf_E_9 qd_E_tell_33 (gm_E (by assumption) (by assumption)) rfl rfl ?_
      refine gz_ireturn (pc := 36) cx hr rfl qd_E_tell_36 ?_
      exact ⟨rfl, rfl⟩
    | 1, _ =>
      subst hx
      refine gz_aload_n (pc := 37) cx qd_E_tell_37 rfl rfl ?_
      refine gz_getI (pc := 38) cx qf_E_15 qd_E_tell_38 (gm_E (by assumption) (by assumption)) rfl rfl ?_
      refine gz_ireturn (pc := 41) cx hr rfl qd_E_tell_41 ?_
      exact ⟨rfl, rfl⟩
    | 2, _ =>
      subst hx
      refine gz_aload_n (pc := 42) cx qd_E_tell_42 rfl rfl ?_
      refine gz_getI (pc := 43) cx qf_E_18 qd_E_tell_43 (gm_E (by assumption) (by assumption)) rfl rfl ?_
      refine gz_ireturn (pc := 46) cx hr rfl qd_E_tell_46 ?_
      exact ⟨rfl, rfl⟩
    | 3, _ =>
      subst hx
      refine gz_aload_n (pc := 47) cx qd_E_tell_47 rfl rfl ?_
      refine gz_getI (pc := 48) cx qf_E_21 qd_E_tell_48 (gm_E (by assumption) (by assumption)) rfl rfl ?_
      refine gz_callS (pc := 51) cx qs_E_34 qd_E_tell_51 (gc_J_bitCount) (by decide) rfl rfl rfl (Nat.le_of_ble_eq_true rfl) ⟨Nat.zero_le _, Nat.zero_le _⟩ ?_
      rintro _ _ ⟨rfl, rfl⟩
      refine gz_ireturn (pc := 54) cx hr rfl qd_E_tell_54 ?_
      exact ⟨rfl, rfl⟩
    | i + 4, hi => exact absurd hi (by omega)
  · refine gz_iconst (v := 0) (pc := 55) cx qd_E_tell_55 (by decide) ?_
    refine gz_ireturn (pc := 56) cx hr rfl qd_E_tell_56 ?_
    have h0 : x ≠ 0 := hx 0 (by decide)
    have h1 : x ≠ 1 := hx 1 (by decide)
    have h2 : x ≠ 2 := hx 2 (by decide)
    have h3 : x ≠ 3 := hx 3 (by decide)
    exact ⟨by rw [sTellE, if_neg h0, if_neg h1, if_neg h2, if_neg h3], rfl⟩
