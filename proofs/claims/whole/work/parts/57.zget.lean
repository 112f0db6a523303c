theorem gc_Z_isRunning {G : gG} {la : Launch} {M : mM} {S : gS} {x : Int32} (h : DR G M (fun _ => false) S) : gM G la qy_Z_isRunning qw_Z_isRunning 1 0 0 (gTt G) (gTt G) [.inr (some (20, 0, 0)), .inl x] S (fun v S' => v = some (.inl (bI (mRun G.1 M x))) ∧ S' = S) := by
  refine gM_of (cc := qc_Z_isRunning) (maxL := 2) (by decide) rfl (Nat.le_of_ble_eq_true rfl) ?_
  intro E cx hr hnm hcz hsz hEl
  subst hEl
  have hD := h
  obtain ⟨d0, d1, d2, d3, d4, d5, d6, d7, d8, d9, d10, d11, d12, d13, d14, d15, d16, d17, d18, d19, d20, d21, d22, d23, d24, d25, d26⟩ := h
  have h8 := d1.1
  have hst := d0
  unfold mRun
  refine gz_aload_n (pc := 0) cx qd_Z_isRunning_0 rfl rfl ?_
  refine gz_iload_n (pc := 1) cx qd_Z_isRunning_1 rfl rfl ?_
  refine gz_callV (pc := 2) cx qv_Z_90 qd_Z_isRunning_2 (gc_Z_isNode d2) (by decide) rfl gm_Z rfl rfl rfl rfl (Nat.le_of_ble_eq_true rfl) ⟨Nat.zero_le _, Nat.zero_le _⟩ ?_
  rintro _ _ ⟨rfl, rfl⟩
  cases hx : mIs G.1 x with
  | false =>
    refine gz_if_eq (tgt := 21) (pc := 5) cx qd_Z_isRunning_5 (by decide) (fun _ => ?_) (fun h5 => absurd rfl h5)
    refine gz_iconst (v := 0) (pc := 21) cx qd_Z_isRunning_21 (by decide) ?_
    refine gz_ireturn (pc := 22) cx hr (by decide) qd_Z_isRunning_22 ?_
    exact ⟨rfl, rfl⟩
  | true =>
    obtain ⟨i, hi, rfl⟩ := (mIs_iff (by omega)).mp hx
    rw [nI_clamp (by omega)]
    have e24 := d6 i hi trivial
    refine gz_if_eq (tgt := 21) (pc := 5) cx qd_Z_isRunning_5 (by decide) (fun h5 => absurd h5 (by decide)) (fun _ => ?_)
    refine gz_aload_n (pc := 8) cx qd_Z_isRunning_8 rfl rfl ?_
    refine gz_getR (pc := 9) cx qf_Z_20 qd_Z_isRunning_9 gm_Z rfl rfl (hst _ _ _ rfl) ?_
    refine gz_iload_n (pc := 12) cx qd_Z_isRunning_12 rfl rfl ?_
    refine gz_zaloadV (pc := 13) cx qd_Z_isRunning_13 (gm_za (by decide) (by decide)) rfl e24 rfl (by omega) (by decide) ?_
    refine gz_if_eq (tgt := 21) (pc := 14) cx qd_Z_isRunning_14 (by decide) (fun h14 => ?_) (fun h14 => ?_)
    · refine gz_iconst (v := 0) (pc := 21) cx qd_Z_isRunning_21 (by decide) ?_
      refine gz_ireturn (pc := 22) cx hr (by decide) qd_Z_isRunning_22 ?_
      rw [decide_eq_true h14]
      exact ⟨rfl, rfl⟩
    · refine gz_iconst (v := 1) (pc := 17) cx qd_Z_isRunning_17 (by decide) ?_
      refine gz_goto (tgt := 22) (pc := 18) cx qd_Z_isRunning_18 (by decide) ?_
      refine gz_ireturn (pc := 22) cx hr (by decide) qd_Z_isRunning_22 ?_
      rw [decide_eq_false h14]
      exact ⟨rfl, rfl⟩
theorem gc_Z_now {G : gG} {la : Launch} {M : mM} {S : gS} (h : DR G M (fun _ => false) S) : gM G la qy_Z_now qw_Z_now 0 0 0 (gTt G) (gTt G) [.inr (some (20, 0, 0))] S (fun v S' => v = some (.inl (M.1 31 0 0)) ∧ S' = S) := by
  refine gM_of (cc := qc_Z_now) (maxL := 1) (by decide) rfl (Nat.le_of_ble_eq_true rfl) ?_
  intro E cx hr hnm hcz hsz hEl
  subst hEl
  have d3 := h.2.2.2.1
  refine gz_aload_n (pc := 0) cx qd_Z_now_0 rfl rfl ?_
  refine gz_getV (pc := 1) cx qf_Z_112 qd_Z_now_1 gm_Z rfl rfl d3 ?_
  refine gz_ireturn (pc := 4) cx hr rfl qd_Z_now_4 ?_
  exact ⟨rfl, rfl⟩
theorem gc_Z_flight {G : gG} {la : Launch} {M : mM} {S : gS} (h : DR G M (fun _ => false) S) : gM G la qy_Z_flight qw_Z_flight 0 0 0 (gTt G) (gTt G) [.inr (some (20, 0, 0))] S (fun v S' => v = some (.inl (nI M.2.2.length)) ∧ S' = S) := by
  refine gM_of (cc := qc_Z_flight) (maxL := 1) (by decide) rfl (Nat.le_of_ble_eq_true rfl) ?_
  intro E cx hr hnm hcz hsz hEl
  subst hEl
  have d4 := h.2.2.2.2.1.1
  refine gz_aload_n (pc := 0) cx qd_Z_flight_0 rfl rfl ?_
  refine gz_getV (pc := 1) cx qf_Z_109 qd_Z_flight_1 gm_Z rfl rfl d4 ?_
  refine gz_ireturn (pc := 4) cx hr rfl qd_Z_flight_4 ?_
  exact ⟨rfl, rfl⟩
theorem gc_Z_message {G : gG} {la : Launch} {M : mM} {S : gS} {D : Nat} {x y : Int32} (h : DR G M (fun _ => false) S) (hO : mInv G.1 D (fun _ => false) M) : gM G la qy_Z_message qw_Z_message 0 0 0 (gTt G) (gTt G) [.inr (some (20, 0, 0)), .inl x, .inl y] S (fun v S' => v = some (.inl (oMsg M x y)) ∧ S' = S) := by
  refine gM_of (cc := qc_Z_message) (maxL := 3) (by decide) rfl (Nat.le_of_ble_eq_true rfl) ?_
  intro E cx hr hnm hcz hsz hEl
  subst hEl
  have hD := h
  obtain ⟨d0, d1, d2, d3, d4, d5, d6, d7, d8, d9, d10, d11, d12, d13, d14, d15, d16, d17, d18, d19, d20, d21, d22, d23, d24, d25, d26⟩ := h
  have h8 := d1.1
  have hst := d0
  obtain ⟨c1, c2, c3⟩ := d4
  have lt : ¬ x < 0 → ¬ nI M.2.2.length ≤ x → ∃ k, k < M.2.2.length ∧ x = nI k := fun a b => by
    rcases pk_ix x (n := M.2.2.length) (by omega) with q | q | q
    · exact absurd q a
    · exact absurd q b
    · exact q
  unfold oMsg
  refine gz_iload_n (pc := 0) cx qd_Z_message_0 rfl rfl ?_
  refine gz_if_lt (tgt := 37) (pc := 1) cx qd_Z_message_1 (by decide) (fun h1 => ?_) (fun h1 => ?_)
  · refine gz_iconst (v := 0) (pc := 37) cx qd_Z_message_37 (by decide) ?_
    refine gz_goto (tgt := 52) (pc := 38) cx qd_Z_message_38 (by decide) ?_
    refine gz_ireturn (pc := 52) cx hr rfl qd_Z_message_52 ?_
    rw [mIs_f1 h1]
    exact ⟨rfl, rfl⟩
  · refine gz_iload_n (pc := 4) cx qd_Z_message_4 rfl rfl ?_
    refine gz_aload_n (pc := 5) cx qd_Z_message_5 rfl rfl ?_
    refine gz_getV (pc := 6) cx qf_Z_109 qd_Z_message_6 gm_Z rfl rfl c1 ?_
    refine gz_icmp_ge (tgt := 37) (pc := 9) cx qd_Z_message_9 (by decide) (fun h9 => ?_) (fun h9 => ?_)
    · refine gz_iconst (v := 0) (pc := 37) cx qd_Z_message_37 (by decide) ?_
      refine gz_goto (tgt := 52) (pc := 38) cx qd_Z_message_38 (by decide) ?_
      refine gz_ireturn (pc := 52) cx hr rfl qd_Z_message_52 ?_
      rw [mIs_f2 h9]
      exact ⟨rfl, rfl⟩
    · obtain ⟨k, hk, rfl⟩ := lt h1 h9
      rw [mIs_nI hk (by omega), if_pos rfl, nI_clamp (by omega)]
      obtain ⟨l32, cell⟩ := c3 k hk
      have hm : mVm G.1 (M.2.2.getD k []) := hO.2.1.2 _ (getD_memL hk)
      obtain ⟨c, hc8, hlen, w6, _⟩ := hm.1
      generalize M.2.2.getD k [] = msg at l32 cell hm hlen w6 ⊢
      have e6 := (cell 6 (by omega)).trans w6
      unfold mTellM
      refine gz_iload_n (pc := 12) cx qd_Z_message_12 rfl rfl ?_
      refine gz_if_lt (tgt := 37) (pc := 13) cx qd_Z_message_13 (by decide) (fun h13 => ?_) (fun h13 => ?_)
      · refine gz_iconst (v := 0) (pc := 37) cx qd_Z_message_37 (by decide) ?_
        refine gz_goto (tgt := 52) (pc := 38) cx qd_Z_message_38 (by decide) ?_
        refine gz_ireturn (pc := 52) cx hr rfl qd_Z_message_52 ?_
        rw [if_pos h13]
        exact ⟨rfl, rfl⟩
      · refine gz_iload_n (pc := 16) cx qd_Z_message_16 rfl rfl ?_
        refine gz_bipush (v := 7) (pc := 17) cx qd_Z_message_17 (by decide) ?_
        refine gz_iconst (v := 3) (pc := 19) cx qd_Z_message_19 (by decide) ?_
        refine gz_aload_n (pc := 20) cx qd_Z_message_20 rfl rfl ?_
        refine gz_getR (pc := 21) cx qf_Z_7 qd_Z_message_21 gm_Z rfl rfl (hst _ _ _ rfl) ?_
        refine gz_bipush (v := 32) (pc := 24) cx qd_Z_message_24 (by decide) ?_
        refine gz_iload_n (pc := 26) cx qd_Z_message_26 rfl rfl ?_
        refine gz_imul (pc := 27) cx qd_Z_message_27 ?_
        refine gz_bipush (v := 6) (pc := 28) cx qd_Z_message_28 (by decide) ?_
        refine gz_iadd (pc := 30) cx qd_Z_message_30 ?_
        try rw [ix32]
        refine gz_ialoadV (pc := 31) cx qd_Z_message_31 (gm_za (by decide) (by decide)) rfl e6 (ix32 k 6) (by omega) (by decide) ?_
        refine gz_imul (pc := 32) cx qd_Z_message_32 ?_
        refine gz_iadd (pc := 33) cx qd_Z_message_33 ?_
        try rw [ix32]
        rw [show (7 : Int32) + 3 * nI c = nI (7 + 3 * c) from ix3 7 c]
        refine gz_icmp_lt (tgt := 41) (pc := 34) cx qd_Z_message_34 (by decide) (fun h34 => ?_) (fun h34 => ?_)
        · obtain ⟨j, hj, rfl⟩ : ∃ j, j < 7 + 3 * c ∧ y = nI j := by
            rcases pk_ix y (n := 7 + 3 * c) (by omega) with q | q | q
            · exact absurd q h13
            · exact absurd q (Int32.not_le.mpr h34)
            · exact q
          refine gz_aload_n (pc := 41) cx qd_Z_message_41 rfl rfl ?_
          refine gz_getR (pc := 42) cx qf_Z_7 qd_Z_message_42 gm_Z rfl rfl (hst _ _ _ rfl) ?_
          refine gz_bipush (v := 32) (pc := 45) cx qd_Z_message_45 (by decide) ?_
          refine gz_iload_n (pc := 47) cx qd_Z_message_47 rfl rfl ?_
          refine gz_imul (pc := 48) cx qd_Z_message_48 ?_
          refine gz_iload_n (pc := 49) cx qd_Z_message_49 rfl rfl ?_
          refine gz_iadd (pc := 50) cx qd_Z_message_50 ?_
          try rw [ix32]
          refine gz_ialoadV (pc := 51) cx qd_Z_message_51 (gm_za (by decide) (by decide)) rfl (cell j (by omega)) rfl (by omega) (by decide) ?_
          refine gz_ireturn (pc := 52) cx hr rfl qd_Z_message_52 ?_
          rw [if_neg h13, nI_clamp (by omega)]
          exact ⟨rfl, rfl⟩
        · refine gz_iconst (v := 0) (pc := 37) cx qd_Z_message_37 (by decide) ?_
          refine gz_goto (tgt := 52) (pc := 38) cx qd_Z_message_38 (by decide) ?_
          refine gz_ireturn (pc := 52) cx hr rfl qd_Z_message_52 ?_
          rw [if_neg h13]
          refine ⟨?_, rfl⟩
          have hz : msg.getD y.toNatClampNeg 0 = 0 := by
            obtain ⟨j, hj, rfl⟩ := nI_of h13
            rw [nI_clamp hj]
            have hj2 : ¬ j < 7 + 3 * c := fun q => h34 (nI_lt q (by omega))
            rw [List.getD_eq_getElem?_getD, List.getElem?_eq_none (by omega)]; rfl
          rw [hz]
theorem gc_Z_view {G : gG} {la : Launch} {M : mM} {S : gS} {D : Nat} {x y z : Int32} (h : DR G M (fun _ => false) S) (hO : mInv G.1 D (fun _ => false) M) : gM G la qy_Z_view qw_Z_view 2 0 0 (gTt G) (gTt G) [.inr (some (20, 0, 0)), .inl x, .inl y, .inl z] S (fun v S' => v = some (.inl (oView G.1 M x y z)) ∧ S' = S) := by
  refine gM_of (cc := qc_Z_view) (maxL := 5) (by decide) rfl (Nat.le_of_ble_eq_true rfl) ?_
  intro E cx hr hnm hcz hsz hEl
  subst hEl
  have hD := h
  obtain ⟨d0, d1, d2, d3, d4, d5, d6, d7, d8, d9, d10, d11, d12, d13, d14, d15, d16, d17, d18, d19, d20, d21, d22, d23, d24, d25, d26⟩ := h
  have h8 := d1.1
  have hst := d0
  unfold oView
  refine gz_aload_n (pc := 0) cx qd_Z_view_0 rfl rfl ?_
  refine gz_iload_n (pc := 1) cx qd_Z_view_1 rfl rfl ?_
  refine gz_callV (pc := 2) cx qv_Z_127 qd_Z_view_2 (gc_Z_isRunning hD) (by decide) rfl gm_Z rfl rfl rfl rfl (Nat.le_of_ble_eq_true rfl) ⟨Nat.zero_le _, Nat.zero_le _⟩ ?_
  rintro _ _ ⟨rfl, rfl⟩
  cases hx : mRun G.1 M x with
  | false =>
    refine gz_if_ne (tgt := 10) (pc := 5) cx qd_Z_view_5 (by decide) (fun h5 => absurd rfl h5) (fun _ => ?_)
    refine gz_iconst (v := -1) (pc := 8) cx qd_Z_view_8 (by decide) ?_
    refine gz_ireturn (pc := 9) cx hr rfl qd_Z_view_9 ?_
    exact ⟨rfl, rfl⟩
  | true =>
    have hx2 := hx
    unfold mRun at hx2
    rw [Bool.and_eq_true] at hx2
    obtain ⟨i, hi, rfl⟩ := (mIs_iff (by omega)).mp hx2.1
    rw [nI_clamp (by omega)] at hx2 ⊢
    have hr2 : mRn M i := by simpa [mRn] using hx2.2
    obtain ⟨v1, v2, v3, v4, v5⟩ := hO.2.2.2.2 i hi hr2
    refine gz_if_ne (tgt := 10) (pc := 5) cx qd_Z_view_5 (by decide) (fun _ => ?_) (fun h5 => absurd h5 (by decide))
    refine gz_bipush (v := 8) (pc := 10) cx qd_Z_view_10 (by decide) ?_
    refine gz_iload_n (pc := 12) cx qd_Z_view_12 rfl rfl ?_
    refine gz_imul (pc := 13) cx qd_Z_view_13 ?_
    refine gz_iload_n (pc := 14) cx qd_Z_view_14 rfl rfl ?_
    refine gz_iadd (pc := 15) cx qd_Z_view_15 ?_
    try rw [ix8]
    refine gz_istore (pc := 16) cx qd_Z_view_16 (Nat.le_of_ble_eq_true rfl) ?_
    refine gz_aload_n (pc := 18) cx qd_Z_view_18 rfl rfl ?_
    refine gz_iload_n (pc := 19) cx qd_Z_view_19 rfl rfl ?_
    refine gz_callV (pc := 20) cx qv_Z_90 qd_Z_view_20 (gc_Z_isNode d2) (by decide) rfl gm_Z rfl rfl rfl rfl (Nat.le_of_ble_eq_true rfl) ⟨Nat.zero_le _, Nat.zero_le _⟩ ?_
    rintro _ _ ⟨rfl, rfl⟩
    cases hy : mIs G.1 y with
    | false =>
      refine gz_if_eq (tgt := 36) (pc := 23) cx qd_Z_view_23 (by decide) (fun _ => ?_) (fun h23 => absurd rfl h23)
      refine gz_iconst (v := 0) (pc := 36) cx qd_Z_view_36 (by decide) ?_
      refine gz_ireturn (pc := 37) cx hr rfl qd_Z_view_37 ?_
      exact ⟨rfl, rfl⟩
    | true =>
      obtain ⟨m, hm, rfl⟩ := (mIs_iff (by omega)).mp hy
      rw [nI_clamp (by omega), ix8]
      have hOw : mOw M (fun _ => false) i m := ⟨hr2, fun q => nomatch q.1⟩
      have f0 := d20 i m hi hm hOw
      have f1 := d21 i m hi hm hr2
      have f2 := d22 i m hi hm hOw
      have f3 := d23 i m hi hm hOw
      obtain ⟨a1, a2, a3, a4⟩ := v2 m hm
      unfold mTellE
      simp only [if_true]
      refine gz_if_eq (tgt := 36) (pc := 23) cx qd_Z_view_23 (by decide) (fun h23 => absurd h23 (by decide)) (fun _ => ?_)
      refine gz_aload_n (pc := 26) cx qd_Z_view_26 rfl rfl ?_
      refine gz_getR (pc := 27) cx qf_Z_29 qd_Z_view_27 gm_Z rfl rfl (hst _ _ _ rfl) ?_
      refine gz_iload (pc := 30) cx qd_Z_view_30 rfl ?_
      refine gz_ialoadV (pc := 32) cx qd_Z_view_32 (gm_za (by decide) (by decide)) rfl f0 rfl (by omega) (by decide) ?_
      refine gz_if_ne (tgt := 38) (pc := 33) cx qd_Z_view_33 (by decide) (fun h33 => ?_) (fun h33 => ?_)
      · refine gz_iload_n (pc := 38) cx qd_Z_view_38 rfl rfl ?_
        refine gz_if_ne (tgt := 52) (pc := 39) cx qd_Z_view_39 (by decide) (fun h39 => ?_) (fun h39 => ?_)
        · refine gz_iload_n (pc := 52) cx qd_Z_view_52 rfl rfl ?_
          refine gz_iconst (v := 1) (pc := 53) cx qd_Z_view_53 (by decide) ?_
          refine gz_icmp_ne (tgt := 67) (pc := 54) cx qd_Z_view_54 (by decide) (fun h54 => ?_) (fun h54 => ?_)
          · refine gz_iload_n (pc := 67) cx qd_Z_view_67 rfl rfl ?_
            refine gz_iconst (v := 2) (pc := 68) cx qd_Z_view_68 (by decide) ?_
            refine gz_icmp_ne (tgt := 82) (pc := 69) cx qd_Z_view_69 (by decide) (fun h69 => ?_) (fun h69 => ?_)
            · refine gz_iload_n (pc := 82) cx qd_Z_view_82 rfl rfl ?_
              refine gz_iconst (v := 3) (pc := 83) cx qd_Z_view_83 (by decide) ?_
              refine gz_icmp_ne (tgt := 100) (pc := 84) cx qd_Z_view_84 (by decide) (fun h84 => ?_) (fun h84 => ?_)
              · refine gz_iconst (v := 0) (pc := 100) cx qd_Z_view_100 (by decide) ?_
                refine gz_ireturn (pc := 101) cx hr rfl qd_Z_view_101 ?_
                rw [if_neg h39, if_neg h54, if_neg h69, if_neg h84]
                exact ⟨rfl, rfl⟩
              · refine gz_aload_n (pc := 87) cx qd_Z_view_87 rfl rfl ?_
                refine gz_getR (pc := 88) cx qf_Z_38 qd_Z_view_88 gm_Z rfl rfl (hst _ _ _ rfl) ?_
                refine gz_iload (pc := 91) cx qd_Z_view_91 rfl ?_
                refine gz_ialoadV (pc := 93) cx qd_Z_view_93 (gm_za (by decide) (by decide)) rfl f3 rfl (by omega) (by decide) ?_
                refine gz_callS (pc := 94) cx qs_Z_150 qd_Z_view_94 (gc_Z_count) (by decide) rfl rfl rfl (Nat.le_of_ble_eq_true rfl) ⟨Nat.zero_le _, Nat.zero_le _⟩ ?_
                rintro _ _ ⟨rfl, rfl⟩
                rw [zCnt_eq a2]
                refine gz_goto (tgt := 101) (pc := 97) cx qd_Z_view_97 (by decide) ?_
                refine gz_ireturn (pc := 101) cx hr rfl qd_Z_view_101 ?_
                rw [if_neg h39, if_neg h54, if_neg h69, if_pos h84]
                exact ⟨rfl, rfl⟩
            · refine gz_aload_n (pc := 72) cx qd_Z_view_72 rfl rfl ?_
              refine gz_getR (pc := 73) cx qf_Z_35 qd_Z_view_73 gm_Z rfl rfl (hst _ _ _ rfl) ?_
              refine gz_iload (pc := 76) cx qd_Z_view_76 rfl ?_
              refine gz_ialoadV (pc := 78) cx qd_Z_view_78 (gm_za (by decide) (by decide)) rfl f2 rfl (by omega) (by decide) ?_
              refine gz_goto (tgt := 101) (pc := 79) cx qd_Z_view_79 (by decide) ?_
              refine gz_ireturn (pc := 101) cx hr rfl qd_Z_view_101 ?_
              rw [if_neg h39, if_neg h54, if_pos h69]
              exact ⟨rfl, rfl⟩
          · refine gz_aload_n (pc := 57) cx qd_Z_view_57 rfl rfl ?_
            refine gz_getR (pc := 58) cx qf_Z_32 qd_Z_view_58 gm_Z rfl rfl (hst _ _ _ rfl) ?_
            refine gz_iload (pc := 61) cx qd_Z_view_61 rfl ?_
            refine gz_ialoadV (pc := 63) cx qd_Z_view_63 (gm_za (by decide) (by decide)) rfl f1 rfl (by omega) (by decide) ?_
            refine gz_goto (tgt := 101) (pc := 64) cx qd_Z_view_64 (by decide) ?_
            refine gz_ireturn (pc := 101) cx hr rfl qd_Z_view_101 ?_
            rw [if_neg h39, if_pos h54]
            exact ⟨rfl, rfl⟩
        · refine gz_aload_n (pc := 42) cx qd_Z_view_42 rfl rfl ?_
          refine gz_getR (pc := 43) cx qf_Z_29 qd_Z_view_43 gm_Z rfl rfl (hst _ _ _ rfl) ?_
          refine gz_iload (pc := 46) cx qd_Z_view_46 rfl ?_
          refine gz_ialoadV (pc := 48) cx qd_Z_view_48 (gm_za (by decide) (by decide)) rfl f0 rfl (by omega) (by decide) ?_
          refine gz_goto (tgt := 101) (pc := 49) cx qd_Z_view_49 (by decide) ?_
          refine gz_ireturn (pc := 101) cx hr rfl qd_Z_view_101 ?_
          rw [if_pos h39]
          exact ⟨rfl, rfl⟩
      · refine gz_iconst (v := 0) (pc := 36) cx qd_Z_view_36 (by decide) ?_
        refine gz_ireturn (pc := 37) cx hr rfl qd_Z_view_37 ?_
        obtain ⟨b1, b2, b3, b4⟩ := a4 h33
        refine ⟨?_, rfl⟩
        rw [h33, b1, b2, b3, show bitC 0 = 0 by decide +kernel]
        simp
theorem gc_Z_newsOf {G : gG} {la : Launch} {M : mM} {S : gS} {i : Nat} (hi : i < G.1) (h : DR G M (fun _ => false) S) (hrun : mRn M i) : gM G la qy_Z_newsOf qw_Z_newsOf 0 0 0 (gTt G) (gTt G) [.inr (some (20, 0, 0)), .inl (nI i)] S (fun v S' => v = some (.inl (mNewsN M i G.1)) ∧ S' = S) := by
  refine gM_of (cc := qc_Z_newsOf) (maxL := 4) (by decide) rfl (Nat.le_of_ble_eq_true rfl) ?_
  intro E cx hr hnm hcz hsz hEl
  subst hEl
  have hD := h
  obtain ⟨d0, d1, d2, d3, d4, d5, d6, d7, d8, d9, d10, d11, d12, d13, d14, d15, d16, d17, d18, d19, d20, d21, d22, d23, d24, d25, d26⟩ := h
  have h8 := d1.1
  have hst := d0
  suffices hh : ∀ k, k ≤ G.1 → (fun k => gZ G E 0 0 (gEnd G E 0 0 (gTt G) (fun v S' => v = some (.inl (mNewsN M i G.1)) ∧ S' = S)) (gTt G) 4 [some (.inr (some (20, 0, 0))), some (.inl (nI i)), some (.inl (mNewsN M i k)), some (.inl (nI k))] [] S) k by
    refine gz_iconst (v := 0) (pc := 0) cx qd_Z_newsOf_0 (by decide) ?_
    refine gz_istore_n (pc := 1) cx qd_Z_newsOf_1 rfl (Nat.le_of_ble_eq_true rfl) ?_
    refine gz_iconst (v := 0) (pc := 2) cx qd_Z_newsOf_2 (by decide) ?_
    refine gz_istore_n (pc := 3) cx qd_Z_newsOf_3 rfl (Nat.le_of_ble_eq_true rfl) ?_
    exact hh 0 (Nat.zero_le _)
  refine g_upto ?_ ?_
  · refine gz_iload_n (pc := 4) cx qd_Z_newsOf_4 rfl rfl ?_
    refine gz_aload_n (pc := 5) cx qd_Z_newsOf_5 rfl rfl ?_
    refine gz_getV (pc := 6) cx qf_Z_86 qd_Z_newsOf_6 gm_Z rfl rfl d2 ?_
    refine gz_icmp_ge (tgt := 40) (pc := 9) cx qd_Z_newsOf_9 (by decide) (fun _ => ?_) (fun h9 => absurd (Int32.le_refl _) h9)
    refine gz_iload_n (pc := 40) cx qd_Z_newsOf_40 rfl rfl ?_
    refine gz_ireturn (pc := 41) cx hr rfl qd_Z_newsOf_41 ?_
    exact ⟨rfl, rfl⟩
  · intro k hk ih
    have f4 := d24 i k hi hk hrun
    refine gz_iload_n (pc := 4) cx qd_Z_newsOf_4 rfl rfl ?_
    refine gz_aload_n (pc := 5) cx qd_Z_newsOf_5 rfl rfl ?_
    refine gz_getV (pc := 6) cx qf_Z_86 qd_Z_newsOf_6 gm_Z rfl rfl d2 ?_
    refine gz_icmp_ge (tgt := 40) (pc := 9) cx qd_Z_newsOf_9 (by decide) (fun h9 => absurd h9 (nI_ge hk (by omega))) (fun _ => ?_)
    refine gz_iload_n (pc := 12) cx qd_Z_newsOf_12 rfl rfl ?_
    refine gz_aload_n (pc := 13) cx qd_Z_newsOf_13 rfl rfl ?_
    refine gz_getR (pc := 14) cx qf_Z_41 qd_Z_newsOf_14 gm_Z rfl rfl (hst _ _ _ rfl) ?_
    refine gz_bipush (v := 8) (pc := 17) cx qd_Z_newsOf_17 (by decide) ?_
    refine gz_iload_n (pc := 19) cx qd_Z_newsOf_19 rfl rfl ?_
    refine gz_imul (pc := 20) cx qd_Z_newsOf_20 ?_
    refine gz_iload_n (pc := 21) cx qd_Z_newsOf_21 rfl rfl ?_
    refine gz_iadd (pc := 22) cx qd_Z_newsOf_22 ?_
    try rw [ix8]
    refine gz_ialoadV (pc := 23) cx qd_Z_newsOf_23 (gm_za (by decide) (by decide)) rfl f4 rfl (by omega) (by decide) ?_
    refine gz_if_le (tgt := 31) (pc := 24) cx qd_Z_newsOf_24 (by decide) (fun h24 => ?_) (fun h24 => ?_)
    · refine gz_iconst (v := 0) (pc := 31) cx qd_Z_newsOf_31 (by decide) ?_
      refine gz_iadd (pc := 32) cx qd_Z_newsOf_32 ?_
      refine gz_istore_n (pc := 33) cx qd_Z_newsOf_33 rfl (Nat.le_of_ble_eq_true rfl) ?_
      refine gz_iinc (pc := 34) cx qd_Z_newsOf_34 rfl (g_inc k) ?_
      refine gz_goto (tgt := 4) (pc := 37) cx qd_Z_newsOf_37 (by decide) ?_
      refine g_swap ?_ ih
      rw [mNewsN]
      rw [if_pos h24, Int32.add_zero]
      rfl
    · refine gz_iconst (v := 1) (pc := 27) cx qd_Z_newsOf_27 (by decide) ?_
      refine gz_goto (tgt := 32) (pc := 28) cx qd_Z_newsOf_28 (by decide) ?_
      refine gz_iadd (pc := 32) cx qd_Z_newsOf_32 ?_
      refine gz_istore_n (pc := 33) cx qd_Z_newsOf_33 rfl (Nat.le_of_ble_eq_true rfl) ?_
      refine gz_iinc (pc := 34) cx qd_Z_newsOf_34 rfl (g_inc k) ?_
      refine gz_goto (tgt := 4) (pc := 37) cx qd_Z_newsOf_37 (by decide) ?_
      refine g_swap ?_ ih
      rw [mNewsN]
      rw [if_neg h24]
      rfl
theorem gc_Z_node {G : gG} {la : Launch} {M : mM} {S : gS} {D : Nat} {x y : Int32} (h : DR G M (fun _ => false) S) (hO : mInv G.1 D (fun _ => false) M) : gM G la qy_Z_node qw_Z_node 1 0 0 (gTt G) (gTt G) [.inr (some (20, 0, 0)), .inl x, .inl y] S (fun v S' => v = some (.inl (oNode G.1 M x y)) ∧ S' = S) := by
  refine gM_of (cc := qc_Z_node) (maxL := 3) (by decide) rfl (Nat.le_of_ble_eq_true rfl) ?_
  intro E cx hr hnm hcz hsz hEl
  subst hEl
  have hD := h
  obtain ⟨d0, d1, d2, d3, d4, d5, d6, d7, d8, d9, d10, d11, d12, d13, d14, d15, d16, d17, d18, d19, d20, d21, d22, d23, d24, d25, d26⟩ := h
  have h8 := d1.1
  have hst := d0
  unfold oNode
  refine gz_aload_n (pc := 0) cx qd_Z_node_0 rfl rfl ?_
  refine gz_iload_n (pc := 1) cx qd_Z_node_1 rfl rfl ?_
  refine gz_callV (pc := 2) cx qv_Z_90 qd_Z_node_2 (gc_Z_isNode d2) (by decide) rfl gm_Z rfl rfl rfl rfl (Nat.le_of_ble_eq_true rfl) ⟨Nat.zero_le _, Nat.zero_le _⟩ ?_
  rintro _ _ ⟨rfl, rfl⟩
  cases hx : mIs G.1 x with
  | false =>
    refine gz_if_eq (tgt := 18) (pc := 5) cx qd_Z_node_5 (by decide) (fun _ => ?_) (fun h5 => absurd rfl h5)
    refine gz_iconst (v := -1) (pc := 18) cx qd_Z_node_18 (by decide) ?_
    refine gz_ireturn (pc := 19) cx hr rfl qd_Z_node_19 ?_
    rw [if_neg (fun q => nomatch q.1)]
    exact ⟨rfl, rfl⟩
  | true =>
    obtain ⟨i, hi, rfl⟩ := (mIs_iff (by omega)).mp hx
    rw [nI_clamp (by omega)]
    have e24 := d6 i hi trivial
    refine gz_if_eq (tgt := 18) (pc := 5) cx qd_Z_node_5 (by decide) (fun h5 => absurd h5 (by decide)) (fun _ => ?_)
    refine gz_iload_n (pc := 8) cx qd_Z_node_8 rfl rfl ?_
    refine gz_if_lt (tgt := 18) (pc := 9) cx qd_Z_node_9 (by decide) (fun h9 => ?_) (fun h9 => ?_)
    · refine gz_iconst (v := -1) (pc := 18) cx qd_Z_node_18 (by decide) ?_
      refine gz_ireturn (pc := 19) cx hr rfl qd_Z_node_19 ?_
      rw [if_neg (fun q => q.2.1 h9)]
      exact ⟨rfl, rfl⟩
    · refine gz_iload_n (pc := 12) cx qd_Z_node_12 rfl rfl ?_
      refine gz_bipush (v := 9) (pc := 13) cx qd_Z_node_13 (by decide) ?_
      refine gz_icmp_le (tgt := 20) (pc := 15) cx qd_Z_node_15 (by decide) (fun h15 => ?_) (fun h15 => ?_)
      · refine gz_aload_n (pc := 20) cx qd_Z_node_20 rfl rfl ?_
        refine gz_getR (pc := 21) cx qf_Z_20 qd_Z_node_21 gm_Z rfl rfl (hst _ _ _ rfl) ?_
        refine gz_iload_n (pc := 24) cx qd_Z_node_24 rfl rfl ?_
        refine gz_zaloadV (pc := 25) cx qd_Z_node_25 (gm_za (by decide) (by decide)) rfl e24 rfl (by omega) (by decide) ?_
        refine gz_if_ne (tgt := 31) (pc := 26) cx qd_Z_node_26 (by decide) (fun h26 => ?_) (fun h26 => ?_)
        · rw [if_pos ⟨rfl, h9, h15⟩, if_neg h26]
          have hr2 : mRn M i := h26
          obtain ⟨v1, v2, v3, v4, v5⟩ := hO.2.2.2.2 i hi hr2
          have f1 := d21 i i hi hi hr2
          have f26 := d8 i hi hr2
          have f36 := d13 i hi hr2
          have f40 := d9 i hi hr2
          have f41 := d10 i hi hr2
          have f34 := (d19 i hi hr2).1
          have hnp : bI (decide (M.1 21 i 0 ≠ -1)) = 0 → M.1 21 i 0 = -1 := fun q => Classical.byContradiction (fun z => bI_f q z)
          have hpb : ¬ bI (decide (M.1 21 i 0 ≠ -1)) = 0 → mPb M i := fun q => ⟨hr2, bI_t q⟩
          have e99 : 8 * i + i = 9 * i := by omega
          rw [e99] at f1
          unfold mTellN
          refine gz_iload_n (pc := 31) cx qd_Z_node_31 rfl rfl ?_
          refine gz_switch (pc := 32) cx 8 (fun jj => [84, 86, 96, 103, 123, 143, 167, 174, 181].getD jj 0) 187 qd_Z_node_32 (by decide) (by intro jj hjj; match jj, hjj with
            | 0, _ => exact ⟨_, rfl, by decide⟩
            | 1, _ => exact ⟨_, rfl, by decide⟩
            | 2, _ => exact ⟨_, rfl, by decide⟩
            | 3, _ => exact ⟨_, rfl, by decide⟩
            | 4, _ => exact ⟨_, rfl, by decide⟩
            | 5, _ => exact ⟨_, rfl, by decide⟩
            | 6, _ => exact ⟨_, rfl, by decide⟩
            | 7, _ => exact ⟨_, rfl, by decide⟩
            | 8, _ => exact ⟨_, rfl, by decide⟩
            | jj + 9, hjj => exact absurd hjj (by omega)) (by decide) (fun jj hjj hx => ?_) (fun hx => ?_)
          · match jj, hjj with
            | 0, _ =>
              rw [show y = 0 from hx]
              refine gz_iconst (v := 1) (pc := 84) cx qd_Z_node_84 (by decide) ?_
              refine gz_ireturn (pc := 85) cx hr rfl qd_Z_node_85 ?_
              rw [if_pos rfl, if_neg h26]
              exact ⟨rfl, rfl⟩
            | 1, _ =>
              rw [show y = 1 from hx]
              refine gz_aload_n (pc := 86) cx qd_Z_node_86 rfl rfl ?_
              refine gz_getR (pc := 87) cx qf_Z_32 qd_Z_node_87 gm_Z rfl rfl (hst _ _ _ rfl) ?_
              refine gz_bipush (v := 9) (pc := 90) cx qd_Z_node_90 (by decide) ?_
              refine gz_iload_n (pc := 92) cx qd_Z_node_92 rfl rfl ?_
              refine gz_imul (pc := 93) cx qd_Z_node_93 ?_
              try rw [ix9]
              refine gz_ialoadV (pc := 94) cx qd_Z_node_94 (gm_za (by decide) (by decide)) rfl f1 rfl (by omega) (by decide) ?_
              refine gz_ireturn (pc := 95) cx hr rfl qd_Z_node_95 ?_
              exact ⟨rfl, rfl⟩
            | 2, _ =>
              rw [show y = 2 from hx]
              refine gz_aload_n (pc := 96) cx qd_Z_node_96 rfl rfl ?_
              refine gz_getR (pc := 97) cx qf_Z_26 qd_Z_node_97 gm_Z rfl rfl (hst _ _ _ rfl) ?_
              refine gz_iload_n (pc := 100) cx qd_Z_node_100 rfl rfl ?_
              refine gz_ialoadV (pc := 101) cx qd_Z_node_101 (gm_za (by decide) (by decide)) rfl f26 rfl (by omega) (by decide) ?_
              refine gz_ireturn (pc := 102) cx hr rfl qd_Z_node_102 ?_
              exact ⟨rfl, rfl⟩
            | 3, _ =>
              rw [show y = 3 from hx]
              refine gz_aload_n (pc := 103) cx qd_Z_node_103 rfl rfl ?_
              refine gz_getR (pc := 104) cx qf_Z_56 qd_Z_node_104 gm_Z rfl rfl (hst _ _ _ rfl) ?_
              refine gz_iload_n (pc := 107) cx qd_Z_node_107 rfl rfl ?_
              refine gz_zaloadV (pc := 108) cx qd_Z_node_108 (gm_za (by decide) (by decide)) rfl f36 rfl (by omega) (by decide) ?_
              refine gz_if_eq (tgt := 121) (pc := 109) cx qd_Z_node_109 (by decide) (fun h109 => ?_) (fun h109 => ?_)
              · refine gz_iconst (v := -1) (pc := 121) cx qd_Z_node_121 (by decide) ?_
                refine gz_ireturn (pc := 122) cx hr rfl qd_Z_node_122 ?_
                rw [hnp h109]
                exact ⟨rfl, rfl⟩
              · refine gz_aload_n (pc := 112) cx qd_Z_node_112 rfl rfl ?_
                refine gz_getR (pc := 113) cx qf_Z_59 qd_Z_node_113 gm_Z rfl rfl (hst _ _ _ rfl) ?_
                refine gz_iload_n (pc := 116) cx qd_Z_node_116 rfl rfl ?_
                refine gz_ialoadV (pc := 117) cx qd_Z_node_117 (gm_za (by decide) (by decide)) rfl (d14 i hi (hpb h109)) rfl (by omega) (by decide) ?_
                refine gz_goto (tgt := 122) (pc := 118) cx qd_Z_node_118 (by decide) ?_
                refine gz_ireturn (pc := 122) cx hr rfl qd_Z_node_122 ?_
                exact ⟨rfl, rfl⟩
            | 4, _ =>
              rw [show y = 4 from hx]
              refine gz_aload_n (pc := 123) cx qd_Z_node_123 rfl rfl ?_
              refine gz_getR (pc := 124) cx qf_Z_56 qd_Z_node_124 gm_Z rfl rfl (hst _ _ _ rfl) ?_
              refine gz_iload_n (pc := 127) cx qd_Z_node_127 rfl rfl ?_
              refine gz_zaloadV (pc := 128) cx qd_Z_node_128 (gm_za (by decide) (by decide)) rfl f36 rfl (by omega) (by decide) ?_
              refine gz_if_eq (tgt := 141) (pc := 129) cx qd_Z_node_129 (by decide) (fun h129 => ?_) (fun h129 => ?_)
              · refine gz_iconst (v := 0) (pc := 141) cx qd_Z_node_141 (by decide) ?_
                refine gz_ireturn (pc := 142) cx hr rfl qd_Z_node_142 ?_
                rw [(v5.2.2.1 (hnp h129)).1]
                exact ⟨rfl, rfl⟩
              · refine gz_aload_n (pc := 132) cx qd_Z_node_132 rfl rfl ?_
                refine gz_getR (pc := 133) cx qf_Z_62 qd_Z_node_133 gm_Z rfl rfl (hst _ _ _ rfl) ?_
                refine gz_iload_n (pc := 136) cx qd_Z_node_136 rfl rfl ?_
                refine gz_ialoadV (pc := 137) cx qd_Z_node_137 (gm_za (by decide) (by decide)) rfl (d15 i hi (hpb h129)) rfl (by omega) (by decide) ?_
                refine gz_goto (tgt := 142) (pc := 138) cx qd_Z_node_138 (by decide) ?_
                refine gz_ireturn (pc := 142) cx hr rfl qd_Z_node_142 ?_
                exact ⟨rfl, rfl⟩
            | 5, _ =>
              rw [show y = 5 from hx]
              refine gz_aload_n (pc := 143) cx qd_Z_node_143 rfl rfl ?_
              refine gz_getR (pc := 144) cx qf_Z_56 qd_Z_node_144 gm_Z rfl rfl (hst _ _ _ rfl) ?_
              refine gz_iload_n (pc := 147) cx qd_Z_node_147 rfl rfl ?_
              refine gz_zaloadV (pc := 148) cx qd_Z_node_148 (gm_za (by decide) (by decide)) rfl f36 rfl (by omega) (by decide) ?_
              refine gz_if_eq (tgt := 165) (pc := 149) cx qd_Z_node_149 (by decide) (fun h149 => ?_) (fun h149 => ?_)
              · refine gz_iconst (v := 0) (pc := 165) cx qd_Z_node_165 (by decide) ?_
                refine gz_ireturn (pc := 166) cx hr rfl qd_Z_node_166 ?_
                rw [(v5.2.2.1 (hnp h149)).2.1]
                exact ⟨rfl, rfl⟩
              · refine gz_aload_n (pc := 152) cx qd_Z_node_152 rfl rfl ?_
                refine gz_getR (pc := 153) cx qf_Z_65 qd_Z_node_153 gm_Z rfl rfl (hst _ _ _ rfl) ?_
                refine gz_iload_n (pc := 156) cx qd_Z_node_156 rfl rfl ?_
                refine gz_zaloadV (pc := 157) cx qd_Z_node_157 (gm_za (by decide) (by decide)) rfl (d16 i hi (hpb h149)) rfl (by omega) (by decide) ?_
                refine gz_if_eq (tgt := 165) (pc := 158) cx qd_Z_node_158 (by decide) (fun h158 => ?_) (fun h158 => ?_)
                · refine gz_iconst (v := 0) (pc := 165) cx qd_Z_node_165 (by decide) ?_
                  refine gz_ireturn (pc := 166) cx hr rfl qd_Z_node_166 ?_
                  rw [h158]
                  exact ⟨rfl, rfl⟩
                · refine gz_iconst (v := 1) (pc := 161) cx qd_Z_node_161 (by decide) ?_
                  refine gz_goto (tgt := 166) (pc := 162) cx qd_Z_node_162 (by decide) ?_
                  refine gz_ireturn (pc := 166) cx hr rfl qd_Z_node_166 ?_
                  refine ⟨?_, rfl⟩
                  rw [if_neg (by decide), if_neg (by decide), if_neg (by decide), if_neg (by decide), if_neg (by decide), if_pos rfl, if_neg h158]
            | 6, _ =>
              rw [show y = 6 from hx]
              refine gz_aload_n (pc := 167) cx qd_Z_node_167 rfl rfl ?_
              refine gz_getR (pc := 168) cx qf_Z_68 qd_Z_node_168 gm_Z rfl rfl (hst _ _ _ rfl) ?_
              refine gz_iload_n (pc := 171) cx qd_Z_node_171 rfl rfl ?_
              refine gz_ialoadV (pc := 172) cx qd_Z_node_172 (gm_za (by decide) (by decide)) rfl f40 rfl (by omega) (by decide) ?_
              refine gz_ireturn (pc := 173) cx hr rfl qd_Z_node_173 ?_
              exact ⟨rfl, rfl⟩
            | 7, _ =>
              rw [show y = 7 from hx]
              refine gz_aload_n (pc := 174) cx qd_Z_node_174 rfl rfl ?_
              refine gz_getR (pc := 175) cx qf_Z_71 qd_Z_node_175 gm_Z rfl rfl (hst _ _ _ rfl) ?_
              refine gz_iload_n (pc := 178) cx qd_Z_node_178 rfl rfl ?_
              refine gz_ialoadV (pc := 179) cx qd_Z_node_179 (gm_za (by decide) (by decide)) rfl f41 rfl (by omega) (by decide) ?_
              refine gz_ireturn (pc := 180) cx hr rfl qd_Z_node_180 ?_
              exact ⟨rfl, rfl⟩
            | 8, _ =>
              rw [show y = 8 from hx]
              refine gz_aload_n (pc := 181) cx qd_Z_node_181 rfl rfl ?_
              refine gz_iload_n (pc := 182) cx qd_Z_node_182 rfl rfl ?_
              refine gz_callV (pc := 183) cx qv_Z_182 qd_Z_node_183 (gc_Z_newsOf hi hD hr2) (by decide) rfl gm_Z rfl rfl rfl rfl (Nat.le_of_ble_eq_true rfl) ⟨Nat.zero_le _, Nat.zero_le _⟩ ?_
              rintro _ _ ⟨rfl, rfl⟩
              refine gz_ireturn (pc := 186) cx hr rfl qd_Z_node_186 ?_
              exact ⟨rfl, rfl⟩
            | jj + 9, hjj => exact absurd hjj (by omega)
          · refine gz_aload_n (pc := 187) cx qd_Z_node_187 rfl rfl ?_
            refine gz_getR (pc := 188) cx qf_Z_50 qd_Z_node_188 gm_Z rfl rfl (hst _ _ _ rfl) ?_
            refine gz_iload_n (pc := 191) cx qd_Z_node_191 rfl rfl ?_
            refine gz_ialoadV (pc := 192) cx qd_Z_node_192 (gm_za (by decide) (by decide)) rfl f34 rfl (by omega) (by decide) ?_
            refine gz_ireturn (pc := 193) cx hr rfl qd_Z_node_193 ?_
            obtain ⟨j, hj, rfl⟩ := nI_of h9
            have h9' : j ≤ 9 := (nI_leI hj (by decide)).mp h15
            have hj9 : j = 9 := by
              have hz : ¬ j < 9 := fun z => hx j (by omega) rfl
              omega
            subst hj9
            exact ⟨rfl, rfl⟩
        · refine gz_iconst (v := 0) (pc := 29) cx qd_Z_node_29 (by decide) ?_
          refine gz_ireturn (pc := 30) cx hr rfl qd_Z_node_30 ?_
          rw [if_pos ⟨rfl, h9, h15⟩, if_pos h26]
          exact ⟨rfl, rfl⟩
      · refine gz_iconst (v := -1) (pc := 18) cx qd_Z_node_18 (by decide) ?_
        refine gz_ireturn (pc := 19) cx hr rfl qd_Z_node_19 ?_
        rw [if_neg (fun q => h15 q.2.2)]
        exact ⟨rfl, rfl⟩
theorem gc_Z_queued {G : gG} {la : Launch} {M : mM} {S : gS} {x y : Int32} (h : DR G M (fun _ => false) S) : gM G la qy_Z_queued qw_Z_queued 2 0 0 (gTt G) (gTt G) [.inr (some (20, 0, 0)), .inl x, .inl y] S (fun v S' => v = some (.inl (oQueued G.1 M x y)) ∧ S' = S) := by
  refine gM_of (cc := qc_Z_queued) (maxL := 3) (by decide) rfl (Nat.le_of_ble_eq_true rfl) ?_
  intro E cx hr hnm hcz hsz hEl
  subst hEl
  have hD := h
  obtain ⟨d0, d1, d2, d3, d4, d5, d6, d7, d8, d9, d10, d11, d12, d13, d14, d15, d16, d17, d18, d19, d20, d21, d22, d23, d24, d25, d26⟩ := h
  have h8 := d1.1
  have hst := d0
  unfold oQueued
  refine gz_aload_n (pc := 0) cx qd_Z_queued_0 rfl rfl ?_
  refine gz_iload_n (pc := 1) cx qd_Z_queued_1 rfl rfl ?_
  refine gz_callV (pc := 2) cx qv_Z_127 qd_Z_queued_2 (gc_Z_isRunning hD) (by decide) rfl gm_Z rfl rfl rfl rfl (Nat.le_of_ble_eq_true rfl) ⟨Nat.zero_le _, Nat.zero_le _⟩ ?_
  rintro _ _ ⟨rfl, rfl⟩
  cases hx : mRun G.1 M x with
  | false =>
    refine gz_if_eq (tgt := 30) (pc := 5) cx qd_Z_queued_5 (by decide) (fun _ => ?_) (fun h5 => absurd rfl h5)
    refine gz_iconst (v := 0) (pc := 30) cx qd_Z_queued_30 (by decide) ?_
    refine gz_ireturn (pc := 31) cx hr rfl qd_Z_queued_31 ?_
    rw [if_neg (fun q => nomatch q.1)]
    exact ⟨rfl, rfl⟩
  | true =>
    have hx2 := hx
    unfold mRun at hx2
    rw [Bool.and_eq_true] at hx2
    obtain ⟨i, hi, rfl⟩ := (mIs_iff (by omega)).mp hx2.1
    rw [nI_clamp (by omega)] at hx2 ⊢
    have hr2 : mRn M i := by simpa [mRn] using hx2.2
    refine gz_if_eq (tgt := 30) (pc := 5) cx qd_Z_queued_5 (by decide) (fun h5 => absurd h5 (by decide)) (fun _ => ?_)
    refine gz_aload_n (pc := 8) cx qd_Z_queued_8 rfl rfl ?_
    refine gz_iload_n (pc := 9) cx qd_Z_queued_9 rfl rfl ?_
    refine gz_callV (pc := 10) cx qv_Z_90 qd_Z_queued_10 (gc_Z_isNode d2) (by decide) rfl gm_Z rfl rfl rfl rfl (Nat.le_of_ble_eq_true rfl) ⟨Nat.zero_le _, Nat.zero_le _⟩ ?_
    rintro _ _ ⟨rfl, rfl⟩
    cases hy : mIs G.1 y with
    | false =>
      refine gz_if_eq (tgt := 30) (pc := 13) cx qd_Z_queued_13 (by decide) (fun _ => ?_) (fun h13 => absurd rfl h13)
      refine gz_iconst (v := 0) (pc := 30) cx qd_Z_queued_30 (by decide) ?_
      refine gz_ireturn (pc := 31) cx hr rfl qd_Z_queued_31 ?_
      rw [if_neg (fun q => nomatch q.2)]
      exact ⟨rfl, rfl⟩
    | true =>
      obtain ⟨m, hm, rfl⟩ := (mIs_iff (by omega)).mp hy
      rw [nI_clamp (by omega), if_pos ⟨rfl, rfl⟩]
      have f4 := d24 i m hi hm hr2
      refine gz_if_eq (tgt := 30) (pc := 13) cx qd_Z_queued_13 (by decide) (fun h13 => absurd h13 (by decide)) (fun _ => ?_)
      refine gz_aload_n (pc := 16) cx qd_Z_queued_16 rfl rfl ?_
      refine gz_getR (pc := 17) cx qf_Z_41 qd_Z_queued_17 gm_Z rfl rfl (hst _ _ _ rfl) ?_
      refine gz_bipush (v := 8) (pc := 20) cx qd_Z_queued_20 (by decide) ?_
      refine gz_iload_n (pc := 22) cx qd_Z_queued_22 rfl rfl ?_
      refine gz_imul (pc := 23) cx qd_Z_queued_23 ?_
      refine gz_iload_n (pc := 24) cx qd_Z_queued_24 rfl rfl ?_
      refine gz_iadd (pc := 25) cx qd_Z_queued_25 ?_
      try rw [ix8]
      refine gz_ialoadV (pc := 26) cx qd_Z_queued_26 (gm_za (by decide) (by decide)) rfl f4 rfl (by omega) (by decide) ?_
      refine gz_goto (tgt := 31) (pc := 27) cx qd_Z_queued_27 (by decide) ?_
      refine gz_ireturn (pc := 31) cx hr rfl qd_Z_queued_31 ?_
      exact ⟨rfl, rfl⟩
theorem gc_Z_agreed {G : gG} {la : Launch} {M : mM} {S : gS} (h : DR G M (fun _ => false) S) : gM G la qy_Z_agreed qw_Z_agreed 0 0 0 (gTt G) (gTt G) [.inr (some (20, 0, 0))] S (fun v S' => v = some (.inl (bI (oAgreed G.1 M))) ∧ S' = S) := by
  refine gM_of (cc := qc_Z_agreed) (maxL := 5) (by decide) rfl (Nat.le_of_ble_eq_true rfl) ?_
  intro E cx hr hnm hcz hsz hEl
  subst hEl
  have hD := h
  obtain ⟨d0, d1, d2, d3, d4, d5, d6, d7, d8, d9, d10, d11, d12, d13, d14, d15, d16, d17, d18, d19, d20, d21, d22, d23, d24, d25, d26⟩ := h
  have h8 := d1.1
  have hst := d0
  have al : ∀ k, (List.range (k + 1)).all (fun i => decide (M.1 15 i 0 = 0) || mSees G.1 M i) = ((List.range k).all (fun i => decide (M.1 15 i 0 = 0) || mSees G.1 M i) && (decide (M.1 15 k 0 = 0) || mSees G.1 M k)) := fun k => by rw [List.range_succ, List.all_append, List.all_cons, List.all_nil, Bool.and_true]
  have al2 : ∀ i k, (List.range (k + 1)).all (mSee1 M i) = ((List.range k).all (mSee1 M i) && mSee1 M i k) := fun i k => by rw [List.range_succ, List.all_append, List.all_cons, List.all_nil, Bool.and_true]
  suffices hh : ∀ k, k ≤ G.1 → (fun k => gZ G E 0 0 (gEnd G E 0 0 (gTt G) (fun v S' => v = some (.inl (bI (oAgreed G.1 M))) ∧ S' = S)) (gTt G) 4 [some (.inr (some (20, 0, 0))), some (.inl (bI ((List.range k).all (fun i => decide (M.1 15 i 0 = 0) || mSees G.1 M i)))), some (.inl (nI k)), none, none] [] S) k by
    refine gz_iconst (v := 1) (pc := 0) cx qd_Z_agreed_0 (by decide) ?_
    refine gz_istore_n (pc := 1) cx qd_Z_agreed_1 rfl (Nat.le_of_ble_eq_true rfl) ?_
    refine gz_iconst (v := 0) (pc := 2) cx qd_Z_agreed_2 (by decide) ?_
    refine gz_istore_n (pc := 3) cx qd_Z_agreed_3 rfl (Nat.le_of_ble_eq_true rfl) ?_
    exact hh 0 (Nat.zero_le _)
  refine g_upto ?_ ?_
  · refine gz_iload_n (pc := 4) cx qd_Z_agreed_4 rfl rfl ?_
    refine gz_aload_n (pc := 5) cx qd_Z_agreed_5 rfl rfl ?_
    refine gz_getV (pc := 6) cx qf_Z_86 qd_Z_agreed_6 gm_Z rfl rfl d2 ?_
    refine gz_icmp_ge (tgt := 118) (pc := 9) cx qd_Z_agreed_9 (by decide) (fun _ => ?_) (fun h9 => absurd (Int32.le_refl _) h9)
    refine gz_iload_n (pc := 118) cx qd_Z_agreed_118 rfl rfl ?_
    refine gz_ireturn (pc := 119) cx hr bI_z qd_Z_agreed_119 ?_
    exact ⟨rfl, rfl⟩
  · intro k hk ih
    have e24 := d6 k hk trivial
    rw [al] at ih
    generalize (List.range k).all (fun i => decide (M.1 15 i 0 = 0) || mSees G.1 M i) = al1 at ih ⊢
    by_cases hr0 : M.1 15 k 0 = 0
    · rw [decide_eq_true hr0, Bool.true_or, Bool.and_true] at ih
      refine gz_iload_n (pc := 4) cx qd_Z_agreed_4 rfl rfl ?_
      refine gz_aload_n (pc := 5) cx qd_Z_agreed_5 rfl rfl ?_
      refine gz_getV (pc := 6) cx qf_Z_86 qd_Z_agreed_6 gm_Z rfl rfl d2 ?_
      refine gz_icmp_ge (tgt := 118) (pc := 9) cx qd_Z_agreed_9 (by decide) (fun h9 => absurd h9 (nI_ge hk (by omega))) (fun _ => ?_)
      refine gz_iconst (v := 0) (pc := 12) cx qd_Z_agreed_12 (by decide) ?_
      refine gz_istore_n (pc := 13) cx qd_Z_agreed_13 rfl (Nat.le_of_ble_eq_true rfl) ?_
      refine gz_iload_n (pc := 14) cx qd_Z_agreed_14 rfl rfl ?_
      refine gz_aload_n (pc := 15) cx qd_Z_agreed_15 rfl rfl ?_
      refine gz_getV (pc := 16) cx qf_Z_86 qd_Z_agreed_16 gm_Z rfl rfl d2 ?_
      refine gz_icmp_ge (tgt := 112) (pc := 19) cx qd_Z_agreed_19 (by decide) (fun h19 => absurd h19 (nI_ge (a := 0) (by omega) (by omega))) (fun _ => ?_)
      refine gz_aload_n (pc := 22) cx qd_Z_agreed_22 rfl rfl ?_
      refine gz_getR (pc := 23) cx qf_Z_20 qd_Z_agreed_23 gm_Z rfl rfl (hst _ _ _ rfl) ?_
      refine gz_iload_n (pc := 26) cx qd_Z_agreed_26 rfl rfl ?_
      refine gz_zaloadV (pc := 27) cx qd_Z_agreed_27 (gm_za (by decide) (by decide)) rfl e24 rfl (by omega) (by decide) ?_
      refine gz_if_eq (tgt := 112) (pc := 28) cx qd_Z_agreed_28 (by decide) (fun _ => ?_) (fun h28 => absurd hr0 h28)
      refine gz_iinc (pc := 112) cx qd_Z_agreed_112 rfl (g_inc k) ?_
      refine gz_goto (tgt := 4) (pc := 115) cx qd_Z_agreed_115 (by decide) ?_
      refine gz_weak (lv' := [some (.inr (some (20, 0, 0))), some (.inl (bI al1)), some (.inl (nI (k + 1))), none, none]) ⟨rfl, rfl, rfl, trivial⟩ ?_
      exact ih
    · rw [decide_eq_false hr0, Bool.false_or] at ih
      have hr2 : mRn M k := hr0
      suffices h2 : ∀ j, j ≤ G.1 → (fun j => gZ G E 0 0 (gEnd G E 0 0 (gTt G) (fun v S' => v = some (.inl (bI (oAgreed G.1 M))) ∧ S' = S)) (gTt G) 14 [some (.inr (some (20, 0, 0))), some (.inl (bI (al1 && (List.range j).all (mSee1 M k)))), some (.inl (nI k)), some (.inl (nI j)), none] [] S) j by
        refine gz_iload_n (pc := 4) cx qd_Z_agreed_4 rfl rfl ?_
        refine gz_aload_n (pc := 5) cx qd_Z_agreed_5 rfl rfl ?_
        refine gz_getV (pc := 6) cx qf_Z_86 qd_Z_agreed_6 gm_Z rfl rfl d2 ?_
        refine gz_icmp_ge (tgt := 118) (pc := 9) cx qd_Z_agreed_9 (by decide) (fun h9 => absurd h9 (nI_ge hk (by omega))) (fun _ => ?_)
        refine gz_iconst (v := 0) (pc := 12) cx qd_Z_agreed_12 (by decide) ?_
        refine gz_istore_n (pc := 13) cx qd_Z_agreed_13 rfl (Nat.le_of_ble_eq_true rfl) ?_
        have h3 := h2 0 (Nat.zero_le _)
        dsimp only at h3
        rw [List.range_zero, List.all_nil, Bool.and_true] at h3
        exact h3
      refine g_upto ?_ ?_
      · refine gz_iload_n (pc := 14) cx qd_Z_agreed_14 rfl rfl ?_
        refine gz_aload_n (pc := 15) cx qd_Z_agreed_15 rfl rfl ?_
        refine gz_getV (pc := 16) cx qf_Z_86 qd_Z_agreed_16 gm_Z rfl rfl d2 ?_
        refine gz_icmp_ge (tgt := 112) (pc := 19) cx qd_Z_agreed_19 (by decide) (fun _ => ?_) (fun h19 => absurd (Int32.le_refl _) h19)
        refine gz_iinc (pc := 112) cx qd_Z_agreed_112 rfl (g_inc k) ?_
        refine gz_goto (tgt := 4) (pc := 115) cx qd_Z_agreed_115 (by decide) ?_
        refine gz_weak (lv' := [some (.inr (some (20, 0, 0))), some (.inl (bI (al1 && mSees G.1 M k))), some (.inl (nI (k + 1))), none, none]) ⟨rfl, rfl, rfl, trivial⟩ ?_
        exact ih
      · intro j hj ih2
        rw [al2, ← Bool.and_assoc] at ih2
        have f0 := d20 k j hk hj ⟨hr2, fun q => nomatch q.1⟩
        have f1 := d21 k j hk hj hr2
        have e24j := d6 j hj trivial
        have e99 : 8 * j + j = 9 * j := by omega
        have fj : M.1 15 j 0 ≠ 0 → S.1 (28, 0, 0) (9 * j) = M.1 1 j j := fun q => by rw [← e99]; exact d21 j j hj hj q
        generalize (al1 && (List.range j).all (mSee1 M k)) = al2' at ih2 ⊢
        refine gz_iload_n (pc := 14) cx qd_Z_agreed_14 rfl rfl ?_
        refine gz_aload_n (pc := 15) cx qd_Z_agreed_15 rfl rfl ?_
        refine gz_getV (pc := 16) cx qf_Z_86 qd_Z_agreed_16 gm_Z rfl rfl d2 ?_
        refine gz_icmp_ge (tgt := 112) (pc := 19) cx qd_Z_agreed_19 (by decide) (fun h19 => absurd h19 (nI_ge hj (by omega))) (fun _ => ?_)
        refine gz_aload_n (pc := 22) cx qd_Z_agreed_22 rfl rfl ?_
        refine gz_getR (pc := 23) cx qf_Z_20 qd_Z_agreed_23 gm_Z rfl rfl (hst _ _ _ rfl) ?_
        refine gz_iload_n (pc := 26) cx qd_Z_agreed_26 rfl rfl ?_
        refine gz_zaloadV (pc := 27) cx qd_Z_agreed_27 (gm_za (by decide) (by decide)) rfl e24 rfl (by omega) (by decide) ?_
        refine gz_if_eq (tgt := 112) (pc := 28) cx qd_Z_agreed_28 (by decide) (fun h28 => absurd h28 hr0) (fun _ => ?_)
        refine gz_aload_n (pc := 31) cx qd_Z_agreed_31 rfl rfl ?_
        refine gz_getR (pc := 32) cx qf_Z_29 qd_Z_agreed_32 gm_Z rfl rfl (hst _ _ _ rfl) ?_
        refine gz_bipush (v := 8) (pc := 35) cx qd_Z_agreed_35 (by decide) ?_
        refine gz_iload_n (pc := 37) cx qd_Z_agreed_37 rfl rfl ?_
        refine gz_imul (pc := 38) cx qd_Z_agreed_38 ?_
        refine gz_iload_n (pc := 39) cx qd_Z_agreed_39 rfl rfl ?_
        refine gz_iadd (pc := 40) cx qd_Z_agreed_40 ?_
        try rw [ix8]
        refine gz_ialoadV (pc := 41) cx qd_Z_agreed_41 (gm_za (by decide) (by decide)) rfl f0 rfl (by omega) (by decide) ?_
        refine gz_istore (pc := 42) cx qd_Z_agreed_42 (Nat.le_of_ble_eq_true rfl) ?_
        refine gz_iload_n (pc := 44) cx qd_Z_agreed_44 rfl rfl ?_
        refine gz_if_eq (tgt := 104) (pc := 45) cx qd_Z_agreed_45 (by decide) (fun h45 => ?_) (fun h45 => ?_)
        · refine gz_iconst (v := 0) (pc := 104) cx qd_Z_agreed_104 (by decide) ?_
          refine gz_istore_n (pc := 105) cx qd_Z_agreed_105 rfl (Nat.le_of_ble_eq_true rfl) ?_
          refine gz_iinc (pc := 106) cx qd_Z_agreed_106 rfl (g_inc j) ?_
          refine gz_goto (tgt := 14) (pc := 109) cx qd_Z_agreed_109 (by decide) ?_
          refine g_swap ?_ (gz_weak (lv' := [some (.inr (some (20, 0, 0))), some (.inl (bI (al2' && mSee1 M k j))), some (.inl (nI k)), some (.inl (nI (j + 1))), none]) (lv := [some (.inr (some (20, 0, 0))), some (.inl (bI (al2' && mSee1 M k j))), some (.inl (nI k)), some (.inl (nI (j + 1))), some (.inl (M.1 0 k j))]) ⟨rfl, rfl, rfl, rfl, trivial⟩ ih2)
          rw [show al2' = false by cases al2'; rfl; exact absurd h45 (by decide), Bool.false_and]
          rfl
        · refine gz_aload_n (pc := 48) cx qd_Z_agreed_48 rfl rfl ?_
          refine gz_getR (pc := 49) cx qf_Z_20 qd_Z_agreed_49 gm_Z rfl rfl (hst _ _ _ rfl) ?_
          refine gz_iload_n (pc := 52) cx qd_Z_agreed_52 rfl rfl ?_
          refine gz_zaloadV (pc := 53) cx qd_Z_agreed_53 (gm_za (by decide) (by decide)) rfl e24j rfl (by omega) (by decide) ?_
          refine gz_if_eq (tgt := 89) (pc := 54) cx qd_Z_agreed_54 (by decide) (fun h54 => ?_) (fun h54 => ?_)
          · refine gz_iload (pc := 89) cx qd_Z_agreed_89 rfl ?_
            refine gz_if_eq (tgt := 100) (pc := 91) cx qd_Z_agreed_91 (by decide) (fun h91 => ?_) (fun h91 => ?_)
            · refine gz_iconst (v := 1) (pc := 100) cx qd_Z_agreed_100 (by decide) ?_
              refine gz_goto (tgt := 105) (pc := 101) cx qd_Z_agreed_101 (by decide) ?_
              refine gz_istore_n (pc := 105) cx qd_Z_agreed_105 rfl (Nat.le_of_ble_eq_true rfl) ?_
              refine gz_iinc (pc := 106) cx qd_Z_agreed_106 rfl (g_inc j) ?_
              refine gz_goto (tgt := 14) (pc := 109) cx qd_Z_agreed_109 (by decide) ?_
              refine g_swap ?_ (gz_weak (lv' := [some (.inr (some (20, 0, 0))), some (.inl (bI (al2' && mSee1 M k j))), some (.inl (nI k)), some (.inl (nI (j + 1))), none]) (lv := [some (.inr (some (20, 0, 0))), some (.inl (bI (al2' && mSee1 M k j))), some (.inl (nI k)), some (.inl (nI (j + 1))), some (.inl (M.1 0 k j))]) ⟨rfl, rfl, rfl, rfl, trivial⟩ ih2)
              rw [show mSee1 M k j = true by unfold mSee1; rw [if_pos h54]; exact decide_eq_true (Or.inl h91), Bool.and_true, show al2' = true by cases al2'; exact absurd rfl h45; rfl]
              rfl
            · refine gz_iload (pc := 94) cx qd_Z_agreed_94 rfl ?_
              refine gz_iconst (v := 3) (pc := 96) cx qd_Z_agreed_96 (by decide) ?_
              refine gz_icmp_ne (tgt := 104) (pc := 97) cx qd_Z_agreed_97 (by decide) (fun h97 => ?_) (fun h97 => ?_)
              · refine gz_iconst (v := 0) (pc := 104) cx qd_Z_agreed_104 (by decide) ?_
                refine gz_istore_n (pc := 105) cx qd_Z_agreed_105 rfl (Nat.le_of_ble_eq_true rfl) ?_
                refine gz_iinc (pc := 106) cx qd_Z_agreed_106 rfl (g_inc j) ?_
                refine gz_goto (tgt := 14) (pc := 109) cx qd_Z_agreed_109 (by decide) ?_
                refine g_swap ?_ (gz_weak (lv' := [some (.inr (some (20, 0, 0))), some (.inl (bI (al2' && mSee1 M k j))), some (.inl (nI k)), some (.inl (nI (j + 1))), none]) (lv := [some (.inr (some (20, 0, 0))), some (.inl (bI (al2' && mSee1 M k j))), some (.inl (nI k)), some (.inl (nI (j + 1))), some (.inl (M.1 0 k j))]) ⟨rfl, rfl, rfl, rfl, trivial⟩ ih2)
                rw [show mSee1 M k j = false by unfold mSee1; rw [if_pos h54]; exact decide_eq_false (fun q => q.elim h91 h97), Bool.and_false]
                rfl
              · refine gz_iconst (v := 1) (pc := 100) cx qd_Z_agreed_100 (by decide) ?_
                refine gz_goto (tgt := 105) (pc := 101) cx qd_Z_agreed_101 (by decide) ?_
                refine gz_istore_n (pc := 105) cx qd_Z_agreed_105 rfl (Nat.le_of_ble_eq_true rfl) ?_
                refine gz_iinc (pc := 106) cx qd_Z_agreed_106 rfl (g_inc j) ?_
                refine gz_goto (tgt := 14) (pc := 109) cx qd_Z_agreed_109 (by decide) ?_
                refine g_swap ?_ (gz_weak (lv' := [some (.inr (some (20, 0, 0))), some (.inl (bI (al2' && mSee1 M k j))), some (.inl (nI k)), some (.inl (nI (j + 1))), none]) (lv := [some (.inr (some (20, 0, 0))), some (.inl (bI (al2' && mSee1 M k j))), some (.inl (nI k)), some (.inl (nI (j + 1))), some (.inl (M.1 0 k j))]) ⟨rfl, rfl, rfl, rfl, trivial⟩ ih2)
                rw [show mSee1 M k j = true by unfold mSee1; rw [if_pos h54]; exact decide_eq_true (Or.inr h97), Bool.and_true, show al2' = true by cases al2'; exact absurd rfl h45; rfl]
                rfl
          · refine gz_iload (pc := 57) cx qd_Z_agreed_57 rfl ?_
            refine gz_iconst (v := 1) (pc := 59) cx qd_Z_agreed_59 (by decide) ?_
            refine gz_icmp_ne (tgt := 104) (pc := 60) cx qd_Z_agreed_60 (by decide) (fun h60 => ?_) (fun h60 => ?_)
            · refine gz_iconst (v := 0) (pc := 104) cx qd_Z_agreed_104 (by decide) ?_
              refine gz_istore_n (pc := 105) cx qd_Z_agreed_105 rfl (Nat.le_of_ble_eq_true rfl) ?_
              refine gz_iinc (pc := 106) cx qd_Z_agreed_106 rfl (g_inc j) ?_
              refine gz_goto (tgt := 14) (pc := 109) cx qd_Z_agreed_109 (by decide) ?_
              refine g_swap ?_ (gz_weak (lv' := [some (.inr (some (20, 0, 0))), some (.inl (bI (al2' && mSee1 M k j))), some (.inl (nI k)), some (.inl (nI (j + 1))), none]) (lv := [some (.inr (some (20, 0, 0))), some (.inl (bI (al2' && mSee1 M k j))), some (.inl (nI k)), some (.inl (nI (j + 1))), some (.inl (M.1 0 k j))]) ⟨rfl, rfl, rfl, rfl, trivial⟩ ih2)
              rw [show mSee1 M k j = false by unfold mSee1; rw [if_neg h54]; exact decide_eq_false (fun q => h60 q.1), Bool.and_false]
              rfl
            · refine gz_aload_n (pc := 63) cx qd_Z_agreed_63 rfl rfl ?_
              refine gz_getR (pc := 64) cx qf_Z_32 qd_Z_agreed_64 gm_Z rfl rfl (hst _ _ _ rfl) ?_
              refine gz_bipush (v := 8) (pc := 67) cx qd_Z_agreed_67 (by decide) ?_
              refine gz_iload_n (pc := 69) cx qd_Z_agreed_69 rfl rfl ?_
              refine gz_imul (pc := 70) cx qd_Z_agreed_70 ?_
              refine gz_iload_n (pc := 71) cx qd_Z_agreed_71 rfl rfl ?_
              refine gz_iadd (pc := 72) cx qd_Z_agreed_72 ?_
              try rw [ix8]
              refine gz_ialoadV (pc := 73) cx qd_Z_agreed_73 (gm_za (by decide) (by decide)) rfl f1 rfl (by omega) (by decide) ?_
              refine gz_aload_n (pc := 74) cx qd_Z_agreed_74 rfl rfl ?_
              refine gz_getR (pc := 75) cx qf_Z_32 qd_Z_agreed_75 gm_Z rfl rfl (hst _ _ _ rfl) ?_
              refine gz_bipush (v := 9) (pc := 78) cx qd_Z_agreed_78 (by decide) ?_
              refine gz_iload_n (pc := 80) cx qd_Z_agreed_80 rfl rfl ?_
              refine gz_imul (pc := 81) cx qd_Z_agreed_81 ?_
              try rw [ix9]
              refine gz_ialoadV (pc := 82) cx qd_Z_agreed_82 (gm_za (by decide) (by decide)) rfl (fj h54) rfl (by omega) (by decide) ?_
              refine gz_icmp_ne (tgt := 104) (pc := 83) cx qd_Z_agreed_83 (by decide) (fun h83 => ?_) (fun h83 => ?_)
              · refine gz_iconst (v := 0) (pc := 104) cx qd_Z_agreed_104 (by decide) ?_
                refine gz_istore_n (pc := 105) cx qd_Z_agreed_105 rfl (Nat.le_of_ble_eq_true rfl) ?_
                refine gz_iinc (pc := 106) cx qd_Z_agreed_106 rfl (g_inc j) ?_
                refine gz_goto (tgt := 14) (pc := 109) cx qd_Z_agreed_109 (by decide) ?_
                refine g_swap ?_ (gz_weak (lv' := [some (.inr (some (20, 0, 0))), some (.inl (bI (al2' && mSee1 M k j))), some (.inl (nI k)), some (.inl (nI (j + 1))), none]) (lv := [some (.inr (some (20, 0, 0))), some (.inl (bI (al2' && mSee1 M k j))), some (.inl (nI k)), some (.inl (nI (j + 1))), some (.inl (M.1 0 k j))]) ⟨rfl, rfl, rfl, rfl, trivial⟩ ih2)
                rw [show mSee1 M k j = false by unfold mSee1; rw [if_neg h54]; exact decide_eq_false (fun q => h83 q.2), Bool.and_false]
                rfl
              · refine gz_goto (tgt := 100) (pc := 86) cx qd_Z_agreed_86 (by decide) ?_
                refine gz_iconst (v := 1) (pc := 100) cx qd_Z_agreed_100 (by decide) ?_
                refine gz_goto (tgt := 105) (pc := 101) cx qd_Z_agreed_101 (by decide) ?_
                refine gz_istore_n (pc := 105) cx qd_Z_agreed_105 rfl (Nat.le_of_ble_eq_true rfl) ?_
                refine gz_iinc (pc := 106) cx qd_Z_agreed_106 rfl (g_inc j) ?_
                refine gz_goto (tgt := 14) (pc := 109) cx qd_Z_agreed_109 (by decide) ?_
                refine g_swap ?_ (gz_weak (lv' := [some (.inr (some (20, 0, 0))), some (.inl (bI (al2' && mSee1 M k j))), some (.inl (nI k)), some (.inl (nI (j + 1))), none]) (lv := [some (.inr (some (20, 0, 0))), some (.inl (bI (al2' && mSee1 M k j))), some (.inl (nI k)), some (.inl (nI (j + 1))), some (.inl (M.1 0 k j))]) ⟨rfl, rfl, rfl, rfl, trivial⟩ ih2)
                rw [show mSee1 M k j = true by unfold mSee1; rw [if_neg h54]; exact decide_eq_true ⟨h60, h83⟩, Bool.and_true, show al2' = true by cases al2'; exact absurd rfl h45; rfl]
                rfl
