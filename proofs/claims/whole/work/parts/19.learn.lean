theorem bI_t {P : Prop} [Decidable P] (h : ¬ bI (decide P) = 0) : P := Classical.byContradiction (fun q => h (by simp [bI, q]))
theorem bI_f {P : Prop} [Decidable P] (h : bI (decide P) = 0) : ¬ P := fun q => by simp [bI, q] at h
theorem gc_N_refute {G : gG} {la : Launch} {M : mM} {p i0 : Nat} {kc : Option (Nat × List Int32)} {S : gS} {i : Nat} {inc w : Int32} (hi : i < G.1) (h : CR G M p i0 kc S) : gM G la qy_N_refute qw_N_refute 2 0 0 (gTt G) (gTt G) [.inr (some (7, i, 0)), .inl inc, .inl w] S (fun v S' => v = none ∧ CR G (mSet (if M.1 1 i i ≤ inc then mSet (mBecome M i i 1 (inc + 1) w) 17 i 0 (mMin4 (M.1 17 i 0 + 1)) else M) 4 i i 4) p i0 kc S' ∧ gFr S S') := by
  refine gM_of (cc := qc_N_refute) (maxL := 4) (by decide) rfl (Nat.le_of_ble_eq_true rfl) ?_
  intro E cx hr hnm hcz hsz hEl
  subst hEl
  have hst := h.1.1
  have hid := (h.1.2.2.2.1 i hi).1
  have h8 := h.1.2.1
  have hinc : S.1 (9, i, i) 1 = M.1 1 i i := h.2.1 i i 1 hi hi (by decide)
  have hsc : S.1 (7, i, 0) 7 = M.1 17 i 0 := h.2.2.1 i 7 hi (by decide) (by decide) (by decide)
  refine gz_aload_n (pc := 0) cx qd_N_refute_0 rfl rfl ?_
  refine gz_getR (pc := 1) cx qf_N_30 qd_N_refute_1 (gm_N (by assumption)) rfl rfl (hst _ _ _ rfl) ?_
  refine gz_aload_n (pc := 4) cx qd_N_refute_4 rfl rfl ?_
  refine gz_getI (pc := 5) cx qf_N_17 qd_N_refute_5 (gm_N (by assumption)) rfl rfl ?_
  refine gz_aaload (pc := 8) cx qd_N_refute_8 (by first | exact gm_tb (by assumption) | exact gm_ns | exact gm_cf | exact gm_w (by assumption) | exact gm_nw (by assumption) | exact gm_rs (by assumption) | exact gm_M (by assumption) | exact gm_R (by assumption) (by assumption) | exact gm_za (by decide) (by decide)) rfl ⟨by decide, by decide, rfl⟩ (hst _ _ _ rfl) hid (by assumption) (by omega) ?_
  refine gz_astore_n (pc := 9) cx qd_N_refute_9 rfl (Nat.le_of_ble_eq_true rfl) ?_
  refine gz_iload_n (pc := 10) cx qd_N_refute_10 rfl rfl ?_
  refine gz_aload_n (pc := 11) cx qd_N_refute_11 rfl rfl ?_
  refine gz_getI (pc := 12) cx qf_N_83 qd_N_refute_12 (gm_E (by assumption) (by assumption)) rfl rfl ?_
  refine gz_icmp_lt (tgt := 32) (pc := 15) cx qd_N_refute_15 (by decide) (fun h15 => ?_) (fun h15 => ?_)
  · refine gz_aload_n (pc := 32) cx qd_N_refute_32 rfl rfl ?_
    refine gz_callV (pc := 33) cx qv_N_181 qd_N_refute_33 (gc_E_announce hi hi) (by decide) rfl (gm_E (by assumption) (by assumption)) rfl rfl rfl rfl (Nat.le_of_ble_eq_true rfl) ⟨Nat.zero_le _, Nat.zero_le _⟩ ?_
    rintro _ _ ⟨rfl, rfl⟩
    refine gz_return (pc := 36) cx hr qd_N_refute_36 ?_
    rw [hinc] at h15
    rw [if_neg (Int32.not_le.mpr h15)]
    obtain ⟨c1, f1⟩ := h.E (i := i) (j := i) (f := 4) (by decide) 4
    exact ⟨rfl, c1, f1⟩
  · refine gz_aload_n (pc := 18) cx qd_N_refute_18 rfl rfl ?_
    refine gz_iconst (v := 1) (pc := 19) cx qd_N_refute_19 (by decide) ?_
    refine gz_iload_n (pc := 20) cx qd_N_refute_20 rfl rfl ?_
    refine gz_iconst (v := 1) (pc := 21) cx qd_N_refute_21 (by decide) ?_
    refine gz_iadd (pc := 22) cx qd_N_refute_22 ?_
    refine gz_iload_n (pc := 23) cx qd_N_refute_23 rfl rfl ?_
    refine gz_callV (pc := 24) cx qv_N_39 qd_N_refute_24 (gc_E_become hi hi) (by decide) rfl (gm_E (by assumption) (by assumption)) rfl rfl rfl rfl (Nat.le_of_ble_eq_true rfl) ⟨Nat.zero_le _, Nat.zero_le _⟩ ?_
    rintro _ _ ⟨rfl, rfl⟩
    refine gz_aload_n (pc := 27) cx qd_N_refute_27 rfl rfl ?_
    refine gz_iconst (v := 1) (pc := 28) cx qd_N_refute_28 (by decide) ?_
    refine gz_callV (pc := 29) cx qv_N_177 qd_N_refute_29 (gc_N_raiseScore hi) (by decide) rfl (gm_N (by assumption)) rfl rfl rfl rfl (Nat.le_of_ble_eq_true rfl) ⟨Nat.zero_le _, Nat.zero_le _⟩ ?_
    rintro _ _ ⟨rfl, rfl⟩
    refine gz_aload_n (pc := 32) cx qd_N_refute_32 rfl rfl ?_
    refine gz_callV (pc := 33) cx qv_N_181 qd_N_refute_33 (gc_E_announce hi hi) (by decide) rfl (gm_E (by assumption) (by assumption)) rfl rfl rfl rfl (Nat.le_of_ble_eq_true rfl) ⟨Nat.zero_le _, Nat.zero_le _⟩ ?_
    rintro _ _ ⟨rfl, rfl⟩
    refine gz_return (pc := 36) cx hr qd_N_refute_36 ?_
    rw [hinc] at h15
    rw [if_pos (Int32.not_lt.mp h15)]
    obtain ⟨c1, f1⟩ := h.become (i := i) (j := i) 1 (inc + 1) w
    have e7 : (sBecome S i i 1 (inc + 1) w).1 (7, i, 0) 7 = M.1 17 i 0 := (c1.2.2.1 i 7 hi (by decide) (by decide) (by decide)).trans rfl
    obtain ⟨c2, f2⟩ := c1.N (i := i) (f := 7) (by decide) (by decide) (by decide) (mMin4 (M.1 17 i 0 + 1))
    obtain ⟨c3, f3⟩ := c2.E (i := i) (j := i) (f := 4) (by decide) 4
    rw [e7]
    exact ⟨rfl, c3, (f1.tr f2).tr f3⟩
theorem gc_N_learn {G : gG} {la : Launch} {M : mM} {p i0 : Nat} {kc : Option (Nat × List Int32)} {S : gS} {i m : Nat} {s inc fr w : Int32} (hi : i < G.1) (hm : m < G.1) (h : CR G M p i0 kc S) : gM G la qy_N_learn qw_N_learn 3 0 0 (gTt G) (gTt G) [.inr (some (7, i, 0)), .inl (nI m), .inl s, .inl inc, .inl fr, .inl w] S (fun v S' => v = none ∧ CR G (mLearn M i m s inc fr w) p i0 kc S' ∧ gFr S S') := by
  refine gM_of (cc := qc_N_learn) (maxL := 7) (by decide) rfl (Nat.le_of_ble_eq_true rfl) ?_
  intro E cx hr hnm hcz hsz hEl
  subst hEl
  have hst := h.1.1
  have hid := (h.1.2.2.2.1 i hi).1
  have h8 := h.1.2.1
  have e0 : S.1 (9, i, m) 0 = M.1 0 i m := h.2.1 i m 0 hi hm (by decide)
  have e1 : S.1 (9, i, m) 1 = M.1 1 i m := h.2.1 i m 1 hi hm (by decide)
  have e3 : S.1 (9, i, m) 3 = M.1 3 i m := h.2.1 i m 3 hi hm (by decide)
  have hmi : nI m = S.1 (7, i, 0) 0 ↔ m = i := by rw [hid]; exact nI_eq (by omega) (by omega)
  refine gz_aload_n (pc := 0) cx qd_N_learn_0 rfl rfl ?_
  refine gz_getR (pc := 1) cx qf_N_30 qd_N_learn_1 (gm_N (by assumption)) rfl rfl (hst _ _ _ rfl) ?_
  refine gz_iload_n (pc := 4) cx qd_N_learn_4 rfl rfl ?_
  refine gz_aaload (pc := 5) cx qd_N_learn_5 (by first | exact gm_tb (by assumption) | exact gm_ns | exact gm_cf | exact gm_w (by assumption) | exact gm_nw (by assumption) | exact gm_rs (by assumption) | exact gm_M (by assumption) | exact gm_R (by assumption) (by assumption) | exact gm_za (by decide) (by decide)) rfl ⟨by decide, by decide, rfl⟩ (hst _ _ _ rfl) rfl (by assumption) (by omega) ?_
  refine gz_astore (pc := 6) cx qd_N_learn_6 (Nat.le_of_ble_eq_true rfl) ?_
  refine gz_iload_n (pc := 8) cx qd_N_learn_8 rfl rfl ?_
  refine gz_aload_n (pc := 9) cx qd_N_learn_9 rfl rfl ?_
  refine gz_getI (pc := 10) cx qf_N_17 qd_N_learn_10 (gm_N (by assumption)) rfl rfl ?_
  refine gz_icmp_ne (tgt := 31) (pc := 13) cx qd_N_learn_13 (by decide) (fun h13 => ?_) (fun h13 => ?_)
  · refine gz_aload (pc := 31) cx qd_N_learn_31 rfl ?_
    refine gz_iload_n (pc := 33) cx qd_N_learn_33 rfl rfl ?_
    refine gz_iload_n (pc := 34) cx qd_N_learn_34 rfl rfl ?_
    refine gz_callV (pc := 35) cx qv_N_164 qd_N_learn_35 (gc_E_isBelow hi hm) (by decide) rfl (gm_E (by assumption) (by assumption)) rfl rfl rfl rfl (Nat.le_of_ble_eq_true rfl) ⟨Nat.zero_le _, Nat.zero_le _⟩ ?_
    rintro _ S' ⟨rfl, hS'⟩
    subst hS'
    refine gz_if_eq (tgt := 71) (pc := 38) cx qd_N_learn_38 (by decide) (fun h38 => ?_) (fun h38 => ?_)
    · refine gz_aload (pc := 71) cx qd_N_learn_71 rfl ?_
      refine gz_iload_n (pc := 73) cx qd_N_learn_73 rfl rfl ?_
      refine gz_iload_n (pc := 74) cx qd_N_learn_74 rfl rfl ?_
      refine gz_callV (pc := 75) cx qv_N_171 qd_N_learn_75 (gc_E_isSameSuspicion hi hm) (by decide) rfl (gm_E (by assumption) (by assumption)) rfl rfl rfl rfl (Nat.le_of_ble_eq_true rfl) ⟨Nat.zero_le _, Nat.zero_le _⟩ ?_
      rintro _ S' ⟨rfl, hS'⟩
      subst hS'
      refine gz_if_eq (tgt := 95) (pc := 78) cx qd_N_learn_78 (by decide) (fun h78 => ?_) (fun h78 => ?_)
      · refine gz_return (pc := 95) cx hr qd_N_learn_95 ?_
        have hne : ¬ m = i := fun q => h13 (hmi.mpr q)
        have hb : ¬ (M.1 0 i m = 0 ∨ M.1 1 i m < inc ∨ (inc = M.1 1 i m ∧ M.1 0 i m < s)) := by rw [e0, e1] at h38; exact bI_f h38
        have hs : ¬ (M.1 0 i m = 2 ∧ s = 2 ∧ inc = M.1 1 i m) := by rw [e0, e1] at h78; simpa [bI] using h78
        unfold mLearn
        rw [if_neg hne, if_neg hb, if_neg hs]
        exact ⟨rfl, h, gFr.rf⟩
      · refine gz_aload (pc := 81) cx qd_N_learn_81 rfl ?_
        refine gz_dup (pc := 83) cx qd_N_learn_83 ?_
        refine gz_getI (pc := 84) cx qf_N_174 qd_N_learn_84 (gm_E (by assumption) (by assumption)) rfl rfl ?_
        refine gz_iconst (v := 1) (pc := 87) cx qd_N_learn_87 (by decide) ?_
        refine gz_iload (pc := 88) cx qd_N_learn_88 rfl ?_
        refine gz_ishl (pc := 90) cx qd_N_learn_90 ?_
        refine gz_ior (pc := 91) cx qd_N_learn_91 ?_
        refine gz_putI (pc := 92) cx qp_N_174 qd_N_learn_92 (gm_E (by assumption) (by assumption)) rfl rfl ⟨rfl, rfl⟩ (fun h => nomatch h) ?_
        refine gz_return (pc := 95) cx hr qd_N_learn_95 ?_
        have hne : ¬ m = i := fun q => h13 (hmi.mpr q)
        have hb : ¬ (M.1 0 i m = 0 ∨ M.1 1 i m < inc ∨ (inc = M.1 1 i m ∧ M.1 0 i m < s)) := by rw [e0, e1] at h38; exact bI_f h38
        have hs : M.1 0 i m = 2 ∧ s = 2 ∧ inc = M.1 1 i m := by rw [e0, e1] at h78; simpa [bI] using h78
        unfold mLearn
        rw [if_neg hne, if_neg hb, if_pos hs, e3]
        obtain ⟨c1, f1⟩ := h.E (i := i) (j := m) (f := 3) (by decide) (M.1 3 i m ||| mBit fr)
        exact ⟨rfl, c1, f1⟩
    · refine gz_iload_n (pc := 41) cx qd_N_learn_41 rfl rfl ?_
      refine gz_iconst (v := 2) (pc := 42) cx qd_N_learn_42 (by decide) ?_
      refine gz_icmp_ne (tgt := 59) (pc := 43) cx qd_N_learn_43 (by decide) (fun h43 => ?_) (fun h43 => ?_)
      · refine gz_aload (pc := 59) cx qd_N_learn_59 rfl ?_
        refine gz_iload_n (pc := 61) cx qd_N_learn_61 rfl rfl ?_
        refine gz_iload_n (pc := 62) cx qd_N_learn_62 rfl rfl ?_
        refine gz_iload (pc := 63) cx qd_N_learn_63 rfl ?_
        refine gz_callV (pc := 65) cx qv_N_39 qd_N_learn_65 (gc_E_become hi hm) (by decide) rfl (gm_E (by assumption) (by assumption)) rfl rfl rfl rfl (Nat.le_of_ble_eq_true rfl) ⟨Nat.zero_le _, Nat.zero_le _⟩ ?_
        rintro _ _ ⟨rfl, rfl⟩
        refine gz_goto (tgt := 95) (pc := 68) cx qd_N_learn_68 (by decide) ?_
        refine gz_return (pc := 95) cx hr qd_N_learn_95 ?_
        have hne : ¬ m = i := fun q => h13 (hmi.mpr q)
        have hb : M.1 0 i m = 0 ∨ M.1 1 i m < inc ∨ (inc = M.1 1 i m ∧ M.1 0 i m < s) := by rw [e0, e1] at h38; exact bI_t h38
        unfold mLearn
        rw [if_neg hne, if_pos hb, if_neg h43]
        obtain ⟨c1, f1⟩ := h.become (i := i) (j := m) s inc w
        exact ⟨rfl, c1, f1⟩
      · refine gz_aload (pc := 46) cx qd_N_learn_46 rfl ?_
        refine gz_iload_n (pc := 48) cx qd_N_learn_48 rfl rfl ?_
        refine gz_iload (pc := 49) cx qd_N_learn_49 rfl ?_
        refine gz_iload (pc := 51) cx qd_N_learn_51 rfl ?_
        refine gz_callV (pc := 53) cx qv_N_168 qd_N_learn_53 (gc_E_becomeSuspect hi hm) (by decide) rfl (gm_E (by assumption) (by assumption)) rfl rfl rfl rfl (Nat.le_of_ble_eq_true rfl) ⟨Nat.zero_le _, Nat.zero_le _⟩ ?_
        rintro _ _ ⟨rfl, rfl⟩
        refine gz_goto (tgt := 95) (pc := 56) cx qd_N_learn_56 (by decide) ?_
        refine gz_return (pc := 95) cx hr qd_N_learn_95 ?_
        have hne : ¬ m = i := fun q => h13 (hmi.mpr q)
        have hb : M.1 0 i m = 0 ∨ M.1 1 i m < inc ∨ (inc = M.1 1 i m ∧ M.1 0 i m < s) := by rw [e0, e1] at h38; exact bI_t h38
        unfold mLearn
        rw [if_neg hne, if_pos hb, if_pos h43]
        obtain ⟨c1, f1⟩ := h.become (i := i) (j := m) 2 inc w
        obtain ⟨c2, f2⟩ := c1.E (i := i) (j := m) (f := 3) (by decide) (mBit fr)
        exact ⟨rfl, c2, f1.tr f2⟩
  · refine gz_iload_n (pc := 16) cx qd_N_learn_16 rfl rfl ?_
    refine gz_iconst (v := 1) (pc := 17) cx qd_N_learn_17 (by decide) ?_
    refine gz_icmp_eq (tgt := 95) (pc := 18) cx qd_N_learn_18 (by decide) (fun h18 => ?_) (fun h18 => ?_)
    · refine gz_return (pc := 95) cx hr qd_N_learn_95 ?_
      have he : m = i := hmi.mp h13
      unfold mLearn
      rw [if_pos he, if_pos h18]
      exact ⟨rfl, h, gFr.rf⟩
    · refine gz_aload_n (pc := 21) cx qd_N_learn_21 rfl rfl ?_
      refine gz_iload_n (pc := 22) cx qd_N_learn_22 rfl rfl ?_
      refine gz_iload (pc := 23) cx qd_N_learn_23 rfl ?_
      refine gz_callV (pc := 25) cx qv_N_160 qd_N_learn_25 (gc_N_refute hi h) (by decide) rfl (gm_N (by assumption)) rfl rfl rfl rfl (Nat.le_of_ble_eq_true rfl) ⟨Nat.zero_le _, Nat.zero_le _⟩ ?_
      rintro _ S' ⟨rfl, hc, hf⟩
      refine gz_goto (tgt := 95) (pc := 28) cx qd_N_learn_28 (by decide) ?_
      refine gz_return (pc := 95) cx hr qd_N_learn_95 ?_
      have he : m = i := hmi.mp h13
      unfold mLearn
      rw [if_pos he, if_neg h18]
      exact ⟨rfl, hc, hf⟩
