theorem gc_E_announce {G : gG} {la : Launch} {S : gS} {i j : Nat} (hi : i < G.1) (hj : j < G.1) : gM G la qy_E_announce qw_E_announce 0 0 0 (gTt G) (gTt G) [.inr (some (9, i, j))] S (fun v S' => v = none ∧ S' = gI S (9, i, j) 4 4) := by
  refine gM_of (cc := qc_E_announce) (maxL := 1) (by decide) rfl (Nat.le_of_ble_eq_true rfl) ?_
  intro E cx hr hnm hcz hsz hEl
  subst hEl
  refine gz_aload_n (pc := 0) cx qd_E_announce_0 rfl rfl ?_
  refine gz_iconst (v := 4) (pc := 1) cx qd_E_announce_1 (by decide) ?_
  refine gz_putI (pc := 2) cx qp_E_24 qd_E_announce_2 (gm_E (by assumption) (by assumption)) rfl rfl ⟨rfl, rfl⟩ (fun h => nomatch h) ?_
  refine gz_return (pc := 5) cx hr qd_E_announce_5 ?_
  exact ⟨rfl, rfl⟩
def sForget (S : gS) (i j : Nat) : gS := gI (gI (gI (gI (gI S (9, i, j) 0 0) (9, i, j) 1 0) (9, i, j) 2 0) (9, i, j) 3 0) (9, i, j) 4 0
theorem gc_E_forget {G : gG} {la : Launch} {S : gS} {i j : Nat} (hi : i < G.1) (hj : j < G.1) : gM G la qy_E_forget qw_E_forget 0 0 0 (gTt G) (gTt G) [.inr (some (9, i, j))] S (fun v S' => v = none ∧ S' = sForget S i j) := by
  refine gM_of (cc := qc_E_forget) (maxL := 1) (by decide) rfl (Nat.le_of_ble_eq_true rfl) ?_
  intro E cx hr hnm hcz hsz hEl
  subst hEl
  refine gz_aload_n (pc := 0) cx qd_E_forget_0 rfl rfl ?_
  refine gz_iconst (v := 0) (pc := 1) cx qd_E_forget_1 (by decide) ?_
  refine gz_putI (pc := 2) cx qp_E_9 qd_E_forget_2 (gm_E (by assumption) (by assumption)) rfl rfl ⟨rfl, rfl⟩ (fun h => nomatch h) ?_
  refine gz_aload_n (pc := 5) cx qd_E_forget_5 rfl rfl ?_
  refine gz_iconst (v := 0) (pc := 6) cx qd_E_forget_6 (by decide) ?_
  refine gz_putI (pc := 7) cx qp_E_15 qd_E_forget_7 (gm_E (by assumption) (by assumption)) rfl rfl ⟨rfl, rfl⟩ (fun h => nomatch h) ?_
  refine gz_aload_n (pc := 10) cx qd_E_forget_10 rfl rfl ?_
  refine gz_iconst (v := 0) (pc := 11) cx qd_E_forget_11 (by decide) ?_
  refine gz_putI (pc := 12) cx qp_E_18 qd_E_forget_12 (gm_E (by assumption) (by assumption)) rfl rfl ⟨rfl, rfl⟩ (fun h => nomatch h) ?_
  refine gz_aload_n (pc := 15) cx qd_E_forget_15 rfl rfl ?_
  refine gz_iconst (v := 0) (pc := 16) cx qd_E_forget_16 (by decide) ?_
  refine gz_putI (pc := 17) cx qp_E_21 qd_E_forget_17 (gm_E (by assumption) (by assumption)) rfl rfl ⟨rfl, rfl⟩ (fun h => nomatch h) ?_
  refine gz_aload_n (pc := 20) cx qd_E_forget_20 rfl rfl ?_
  refine gz_iconst (v := 0) (pc := 21) cx qd_E_forget_21 (by decide) ?_
  refine gz_putI (pc := 22) cx qp_E_24 qd_E_forget_22 (gm_E (by assumption) (by assumption)) rfl rfl ⟨rfl, rfl⟩ (fun h => nomatch h) ?_
  refine gz_return (pc := 25) cx hr qd_E_forget_25 ?_
  exact ⟨rfl, rfl⟩
def sBecome (S : gS) (i j : Nat) (s inc now : Int32) : gS := gI (gI (gI (gI (gI S (9, i, j) 0 s) (9, i, j) 1 inc) (9, i, j) 2 now) (9, i, j) 3 0) (9, i, j) 4 4
theorem gc_E_become {G : gG} {la : Launch} {S : gS} {i j : Nat} {s inc now : Int32} (hi : i < G.1) (hj : j < G.1) : gM G la qy_E_become qw_E_become 1 0 0 (gTt G) (gTt G) [.inr (some (9, i, j)), .inl s, .inl inc, .inl now] S (fun v S' => v = none ∧ S' = sBecome S i j s inc now) := by
  refine gM_of (cc := qc_E_become) (maxL := 4) (by decide) rfl (Nat.le_of_ble_eq_true rfl) ?_
  intro E cx hr hnm hcz hsz hEl
  subst hEl
  refine gz_aload_n (pc := 0) cx qd_E_become_0 rfl rfl ?_
  refine gz_iload_n (pc := 1) cx qd_E_become_1 rfl rfl ?_
  refine gz_putI (pc := 2) cx qp_E_9 qd_E_become_2 (gm_E (by assumption) (by assumption)) rfl rfl ⟨rfl, rfl⟩ (fun h => nomatch h) ?_
  refine gz_aload_n (pc := 5) cx qd_E_become_5 rfl rfl ?_
  refine gz_iload_n (pc := 6) cx qd_E_become_6 rfl rfl ?_
  refine gz_putI (pc := 7) cx qp_E_15 qd_E_become_7 (gm_E (by assumption) (by assumption)) rfl rfl ⟨rfl, rfl⟩ (fun h => nomatch h) ?_
  refine gz_aload_n (pc := 10) cx qd_E_become_10 rfl rfl ?_
  refine gz_iload_n (pc := 11) cx qd_E_become_11 rfl rfl ?_
  refine gz_putI (pc := 12) cx qp_E_18 qd_E_become_12 (gm_E (by assumption) (by assumption)) rfl rfl ⟨rfl, rfl⟩ (fun h => nomatch h) ?_
  refine gz_aload_n (pc := 15) cx qd_E_become_15 rfl rfl ?_
  refine gz_iconst (v := 0) (pc := 16) cx qd_E_become_16 (by decide) ?_
  refine gz_putI (pc := 17) cx qp_E_21 qd_E_become_17 (gm_E (by assumption) (by assumption)) rfl rfl ⟨rfl, rfl⟩ (fun h => nomatch h) ?_
  refine gz_aload_n (pc := 20) cx qd_E_become_20 rfl rfl ?_
  refine gz_callV (pc := 21) cx qv_E_27 qd_E_become_21 (gc_E_announce hi hj) (by decide) rfl (gm_E (by assumption) (by assumption)) rfl rfl rfl rfl (Nat.le_of_ble_eq_true rfl) ⟨Nat.zero_le _, Nat.zero_le _⟩ ?_
  rintro _ _ ⟨rfl, rfl⟩
  refine gz_return (pc := 24) cx hr qd_E_become_24 ?_
  exact ⟨rfl, rfl⟩
theorem gc_E_becomeSuspect {G : gG} {la : Launch} {S : gS} {i j : Nat} {inc now who : Int32} (hi : i < G.1) (hj : j < G.1) : gM G la qy_E_becomeSuspect qw_E_becomeSuspect 2 0 0 (gTt G) (gTt G) [.inr (some (9, i, j)), .inl inc, .inl now, .inl who] S (fun v S' => v = none ∧ S' = gI (sBecome S i j 2 inc now) (9, i, j) 3 (1 <<< (who &&& 31))) := by
  refine gM_of (cc := qc_E_becomeSuspect) (maxL := 4) (by decide) rfl (Nat.le_of_ble_eq_true rfl) ?_
  intro E cx hr hnm hcz hsz hEl
  subst hEl
  refine gz_aload_n (pc := 0) cx qd_E_becomeSuspect_0 rfl rfl ?_
  refine gz_iconst (v := 2) (pc := 1) cx qd_E_becomeSuspect_1 (by decide) ?_
  refine gz_iload_n (pc := 2) cx qd_E_becomeSuspect_2 rfl rfl ?_
  refine gz_iload_n (pc := 3) cx qd_E_becomeSuspect_3 rfl rfl ?_
  refine gz_callV (pc := 4) cx qv_E_30 qd_E_becomeSuspect_4 (gc_E_become hi hj) (by decide) rfl (gm_E (by assumption) (by assumption)) rfl rfl rfl rfl (Nat.le_of_ble_eq_true rfl) ⟨Nat.zero_le _, Nat.zero_le _⟩ ?_
  rintro _ _ ⟨rfl, rfl⟩
  refine gz_aload_n (pc := 7) cx qd_E_becomeSuspect_7 rfl rfl ?_
  refine gz_iconst (v := 1) (pc := 8) cx qd_E_becomeSuspect_8 (by decide) ?_
  refine gz_iload_n (pc := 9) cx qd_E_becomeSuspect_9 rfl rfl ?_
  refine gz_ishl (pc := 10) cx qd_E_becomeSuspect_10 ?_
  refine gz_putI (pc := 11) cx qp_E_21 qd_E_becomeSuspect_11 (gm_E (by assumption) (by assumption)) rfl rfl ⟨rfl, rfl⟩ (fun h => nomatch h) ?_
  refine gz_return (pc := 14) cx hr qd_E_becomeSuspect_14 ?_
  exact ⟨rfl, rfl⟩
def bI (b : Bool) : Int32 := if b then 1 else 0
theorem gc_E_isBelow {G : gG} {la : Launch} {S : gS} {i j : Nat} {s inc : Int32} (hi : i < G.1) (hj : j < G.1) : gM G la qy_E_isBelow qw_E_isBelow 0 0 0 (gTt G) (gTt G) [.inr (some (9, i, j)), .inl s, .inl inc] S (fun v S' => v = some (.inl (bI (decide (S.1 (9, i, j) 0 = 0 ∨ S.1 (9, i, j) 1 < inc ∨ (inc = S.1 (9, i, j) 1 ∧ S.1 (9, i, j) 0 < s))))) ∧ S' = S) := by
  refine gM_of (cc := qc_E_isBelow) (maxL := 3) (by decide) rfl (Nat.le_of_ble_eq_true rfl) ?_
  intro E cx hr hnm hcz hsz hEl
  subst hEl
  refine gz_aload_n (pc := 0) cx qd_E_isBelow_0 rfl rfl ?_
  refine gz_getI (pc := 1) cx qf_E_9 qd_E_isBelow_1 (gm_E (by assumption) (by assumption)) rfl rfl ?_
  refine gz_if_eq (tgt := 15) (pc := 4) cx qd_E_isBelow_4 (by decide) (fun h4 => ?_) (fun h4 => ?_)
  · refine gz_iconst (v := 1) (pc := 15) cx qd_E_isBelow_15 (by decide) ?_
    refine gz_ireturn (pc := 16) cx hr (by decide) qd_E_isBelow_16 ?_
    refine ⟨?_, rfl⟩
    simp_all [bI]
  · refine gz_iload_n (pc := 7) cx qd_E_isBelow_7 rfl rfl ?_
    refine gz_aload_n (pc := 8) cx qd_E_isBelow_8 rfl rfl ?_
    refine gz_getI (pc := 9) cx qf_E_15 qd_E_isBelow_9 (gm_E (by assumption) (by assumption)) rfl rfl ?_
    refine gz_icmp_le (tgt := 17) (pc := 12) cx qd_E_isBelow_12 (by decide) (fun h12 => ?_) (fun h12 => ?_)
    · refine gz_iload_n (pc := 17) cx qd_E_isBelow_17 rfl rfl ?_
      refine gz_aload_n (pc := 18) cx qd_E_isBelow_18 rfl rfl ?_
      refine gz_getI (pc := 19) cx qf_E_15 qd_E_isBelow_19 (gm_E (by assumption) (by assumption)) rfl rfl ?_
      refine gz_icmp_ne (tgt := 37) (pc := 22) cx qd_E_isBelow_22 (by decide) (fun h22 => ?_) (fun h22 => ?_)
      · refine gz_iconst (v := 0) (pc := 37) cx qd_E_isBelow_37 (by decide) ?_
        refine gz_ireturn (pc := 38) cx hr (by decide) qd_E_isBelow_38 ?_
        refine ⟨?_, rfl⟩
        simp_all [bI]
      · refine gz_iload_n (pc := 25) cx qd_E_isBelow_25 rfl rfl ?_
        refine gz_aload_n (pc := 26) cx qd_E_isBelow_26 rfl rfl ?_
        refine gz_getI (pc := 27) cx qf_E_9 qd_E_isBelow_27 (gm_E (by assumption) (by assumption)) rfl rfl ?_
        refine gz_icmp_le (tgt := 37) (pc := 30) cx qd_E_isBelow_30 (by decide) (fun h30 => ?_) (fun h30 => ?_)
        · refine gz_iconst (v := 0) (pc := 37) cx qd_E_isBelow_37 (by decide) ?_
          refine gz_ireturn (pc := 38) cx hr (by decide) qd_E_isBelow_38 ?_
          refine ⟨?_, rfl⟩
          simp_all [bI]
        · refine gz_iconst (v := 1) (pc := 33) cx qd_E_isBelow_33 (by decide) ?_
          refine gz_goto (tgt := 38) (pc := 34) cx qd_E_isBelow_34 (by decide) ?_
          refine gz_ireturn (pc := 38) cx hr (by decide) qd_E_isBelow_38 ?_
          refine ⟨?_, rfl⟩
          simp_all [bI]
    · refine gz_iconst (v := 1) (pc := 15) cx qd_E_isBelow_15 (by decide) ?_
      refine gz_ireturn (pc := 16) cx hr (by decide) qd_E_isBelow_16 ?_
      refine ⟨?_, rfl⟩
      simp_all [bI]
theorem gc_E_isSameSuspicion {G : gG} {la : Launch} {S : gS} {i j : Nat} {s inc : Int32} (hi : i < G.1) (hj : j < G.1) : gM G la qy_E_isSameSuspicion qw_E_isSameSuspicion 0 0 0 (gTt G) (gTt G) [.inr (some (9, i, j)), .inl s, .inl inc] S (fun v S' => v = some (.inl (bI (decide (S.1 (9, i, j) 0 = 2 ∧ s = 2 ∧ inc = S.1 (9, i, j) 1)))) ∧ S' = S) := by
  refine gM_of (cc := qc_E_isSameSuspicion) (maxL := 3) (by decide) rfl (Nat.le_of_ble_eq_true rfl) ?_
  intro E cx hr hnm hcz hsz hEl
  subst hEl
  refine gz_aload_n (pc := 0) cx qd_E_isSameSuspicion_0 rfl rfl ?_
  refine gz_getI (pc := 1) cx qf_E_9 qd_E_isSameSuspicion_1 (gm_E (by assumption) (by assumption)) rfl rfl ?_
  refine gz_iconst (v := 2) (pc := 4) cx qd_E_isSameSuspicion_4 (by decide) ?_
  refine gz_icmp_ne (tgt := 25) (pc := 5) cx qd_E_isSameSuspicion_5 (by decide) (fun h5 => ?_) (fun h5 => ?_)
  · refine gz_iconst (v := 0) (pc := 25) cx qd_E_isSameSuspicion_25 (by decide) ?_
    refine gz_ireturn (pc := 26) cx hr (by decide) qd_E_isSameSuspicion_26 ?_
    refine ⟨?_, rfl⟩
    simp_all [bI]
  · refine gz_iload_n (pc := 8) cx qd_E_isSameSuspicion_8 rfl rfl ?_
    refine gz_iconst (v := 2) (pc := 9) cx qd_E_isSameSuspicion_9 (by decide) ?_
    refine gz_icmp_ne (tgt := 25) (pc := 10) cx qd_E_isSameSuspicion_10 (by decide) (fun h10 => ?_) (fun h10 => ?_)
    · refine gz_iconst (v := 0) (pc := 25) cx qd_E_isSameSuspicion_25 (by decide) ?_
      refine gz_ireturn (pc := 26) cx hr (by decide) qd_E_isSameSuspicion_26 ?_
      refine ⟨?_, rfl⟩
      simp_all [bI]
    · refine gz_iload_n (pc := 13) cx qd_E_isSameSuspicion_13 rfl rfl ?_
      refine gz_aload_n (pc := 14) cx qd_E_isSameSuspicion_14 rfl rfl ?_
      refine gz_getI (pc := 15) cx qf_E_15 qd_E_isSameSuspicion_15 (gm_E (by assumption) (by assumption)) rfl rfl ?_
      refine gz_icmp_ne (tgt := 25) (pc := 18) cx qd_E_isSameSuspicion_18 (by decide) (fun h18 => ?_) (fun h18 => ?_)
      · refine gz_iconst (v := 0) (pc := 25) cx qd_E_isSameSuspicion_25 (by decide) ?_
        refine gz_ireturn (pc := 26) cx hr (by decide) qd_E_isSameSuspicion_26 ?_
        refine ⟨?_, rfl⟩
        simp_all [bI]
      · refine gz_iconst (v := 1) (pc := 21) cx qd_E_isSameSuspicion_21 (by decide) ?_
        refine gz_goto (tgt := 26) (pc := 22) cx qd_E_isSameSuspicion_22 (by decide) ?_
        refine gz_ireturn (pc := 26) cx hr (by decide) qd_E_isSameSuspicion_26 ?_
        refine ⟨?_, rfl⟩
        simp_all [bI]
