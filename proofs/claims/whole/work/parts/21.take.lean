theorem getD_at {r : List (List Int32)} {j : Nat} (h : j < r.length) : r.getD j [] = r[j] := by
  rw [List.getD_eq_getElem?_getD, List.getElem?_eq_getElem h]; rfl
theorem gc_N_endRelay {G : gG} {la : Launch} {S : gS} {i k len : Nat} {ρ : Nat → Nat} (hi : i < G.1) (hst : gSt G S) (hl4 : len ≤ 4) (hk : k < len) (hcnt : S.1 (7, i, 0) 8 = nI len) (h10 : ∀ j, j < 4 → S.2 (10, i, 0) j = some (11, i, ρ j) ∧ ρ j < 4) : gM G la qy_N_endRelay qw_N_endRelay 0 0 0 (gTt G) (gTt G) [.inr (some (7, i, 0)), .inl (nI k)] S (fun v S' => v = none ∧ S' = sEnd S i k len) := by
  refine gM_of (cc := qc_N_endRelay) (maxL := 4) (by decide) rfl (Nat.le_of_ble_eq_true rfl) ?_
  intro E cx hr hnm hcz hsz hEl
  subst hEl
  have hpred : nI len - 1 = nI (len - 1) := by
    obtain ⟨z, rfl⟩ : ∃ z, len = z + 1 := ⟨len - 1, by omega⟩
    exact nI_pred z
  suffices h : ∀ x, x ≤ len - 1 → k ≤ x → gZ G E 0 0 (gEnd G E 0 0 (gTt G) (fun v S' => v = none ∧ S' = sEnd S i k len)) (gTt G) 9 [some (.inr (some (7, i, 0))), some (.inl (nI k)), some (.inr (some (11, i, ρ k))), some (.inl (nI x))] [] (sShift S (10, i, 0) k x) by
    refine gz_aload_n (pc := 0) cx qd_N_endRelay_0 rfl rfl ?_
    refine gz_getR (pc := 1) cx qf_N_13 qd_N_endRelay_1 (gm_N (by assumption)) rfl rfl (hst _ _ _ rfl) ?_
    refine gz_iload_n (pc := 4) cx qd_N_endRelay_4 rfl rfl ?_
    refine gz_aaload (pc := 5) cx qd_N_endRelay_5 (by first | exact gm_tb (by assumption) | exact gm_ns | exact gm_cf | exact gm_w (by assumption) | exact gm_nw (by assumption) | exact gm_rs (by assumption) | exact gm_M (by assumption) | exact gm_R (by assumption) (by assumption) | exact gm_za (by decide) (by decide)) rfl ⟨by decide, by decide, rfl⟩ (h10 k (by omega)).1 rfl (by omega) (by decide) ?_
    refine gz_astore_n (pc := 6) cx qd_N_endRelay_6 rfl (Nat.le_of_ble_eq_true rfl) ?_
    refine gz_iload_n (pc := 7) cx qd_N_endRelay_7 rfl rfl ?_
    refine gz_istore_n (pc := 8) cx qd_N_endRelay_8 rfl (Nat.le_of_ble_eq_true rfl) ?_
    have h0 := h k (by omega) (Nat.le_refl _)
    rw [sShift_0] at h0
    exact h0
  refine g_upto ?_ ?_
  · intro hkx
    have hst := hst.shift10 (i := i) (k := k) (x := len - 1)
    refine gz_iload_n (pc := 9) cx qd_N_endRelay_9 rfl rfl ?_
    refine gz_aload_n (pc := 10) cx qd_N_endRelay_10 rfl rfl ?_
    refine gz_getI (pc := 11) cx qf_N_53 qd_N_endRelay_11 (gm_N (by assumption)) rfl rfl ?_
    refine gz_iconst (v := 1) (pc := 14) cx qd_N_endRelay_14 (by decide) ?_
    refine gz_isub (pc := 15) cx qd_N_endRelay_15 ?_
    refine gz_icmp_ge (tgt := 39) (pc := 16) cx qd_N_endRelay_16 (by decide) (fun _ => ?_) (fun h16 => absurd (show S.1 (7, i, 0) 8 - 1 ≤ nI (len - 1) by rw [hcnt, hpred]; exact Int32.le_refl _) h16)
    refine gz_aload_n (pc := 39) cx qd_N_endRelay_39 rfl rfl ?_
    refine gz_dup (pc := 40) cx qd_N_endRelay_40 ?_
    refine gz_getI (pc := 41) cx qf_N_53 qd_N_endRelay_41 (gm_N (by assumption)) rfl rfl ?_
    refine gz_iconst (v := 1) (pc := 44) cx qd_N_endRelay_44 (by decide) ?_
    refine gz_isub (pc := 45) cx qd_N_endRelay_45 ?_
    refine gz_putI (pc := 46) cx qp_N_53 qd_N_endRelay_46 (gm_N (by assumption)) rfl rfl ⟨rfl, rfl⟩ (fun h => nomatch h) ?_
    refine gz_aload_n (pc := 49) cx qd_N_endRelay_49 rfl rfl ?_
    refine gz_getR (pc := 50) cx qf_N_13 qd_N_endRelay_50 (gm_N (by assumption)) rfl rfl (show (sShift S (10, i, 0) k (len - 1)).2 (7, i, 0) 4 = _ from hst _ _ _ rfl) ?_
    refine gz_aload_n (pc := 53) cx qd_N_endRelay_53 rfl rfl ?_
    refine gz_getI (pc := 54) cx qf_N_53 qd_N_endRelay_54 (gm_N (by assumption)) rfl rfl ?_
    refine gz_aload_n (pc := 57) cx qd_N_endRelay_57 rfl rfl ?_
    refine gz_aastore (pc := 58) cx qd_N_endRelay_58 (by first | exact gm_tb (by assumption) | exact gm_ns | exact gm_cf | exact gm_w (by assumption) | exact gm_nw (by assumption) | exact gm_rs (by assumption) | exact gm_M (by assumption) | exact gm_R (by assumption) (by assumption) | exact gm_za (by decide) (by decide)) (gm_R hi (h10 k (by omega)).2) rfl rfl ⟨by decide, by decide, rfl⟩ rfl (show _ = nI (len - 1) by rw [gI1, if_pos ⟨rfl, rfl⟩]; show S.1 (7, i, 0) 8 - 1 = _; rw [hcnt, hpred]) (by omega) (by decide) ?_
    refine gz_return (pc := 59) cx hr qd_N_endRelay_59 ?_
    refine ⟨rfl, ?_⟩
    show gX (gI _ _ _ (S.1 (7, i, 0) 8 - 1)) _ _ _ = _
    rw [hcnt, hpred]
    unfold sEnd
    rw [(h10 k (by omega)).1]
  · intro x hx ih hkx
    have hst := hst.shift10 (i := i) (k := k) (x := x)
    refine gz_iload_n (pc := 9) cx qd_N_endRelay_9 rfl rfl ?_
    refine gz_aload_n (pc := 10) cx qd_N_endRelay_10 rfl rfl ?_
    refine gz_getI (pc := 11) cx qf_N_53 qd_N_endRelay_11 (gm_N (by assumption)) rfl rfl ?_
    refine gz_iconst (v := 1) (pc := 14) cx qd_N_endRelay_14 (by decide) ?_
    refine gz_isub (pc := 15) cx qd_N_endRelay_15 ?_
    refine gz_icmp_ge (tgt := 39) (pc := 16) cx qd_N_endRelay_16 (by decide) (fun h16 => absurd (show S.1 (7, i, 0) 8 - 1 ≤ nI x from h16) (by rw [hcnt, hpred]; exact nI_ge hx (by omega))) (fun _ => ?_)
    refine gz_aload_n (pc := 19) cx qd_N_endRelay_19 rfl rfl ?_
    refine gz_getR (pc := 20) cx qf_N_13 qd_N_endRelay_20 (gm_N (by assumption)) rfl rfl (hst _ _ _ rfl) ?_
    refine gz_iload_n (pc := 23) cx qd_N_endRelay_23 rfl rfl ?_
    refine gz_aload_n (pc := 24) cx qd_N_endRelay_24 rfl rfl ?_
    refine gz_getR (pc := 25) cx qf_N_13 qd_N_endRelay_25 (gm_N (by assumption)) rfl rfl (hst _ _ _ rfl) ?_
    refine gz_iload_n (pc := 28) cx qd_N_endRelay_28 rfl rfl ?_
    refine gz_iconst (v := 1) (pc := 29) cx qd_N_endRelay_29 (by decide) ?_
    refine gz_iadd (pc := 30) cx qd_N_endRelay_30 ?_
    refine gz_aaload (pc := 31) cx qd_N_endRelay_31 (by first | exact gm_tb (by assumption) | exact gm_ns | exact gm_cf | exact gm_w (by assumption) | exact gm_nw (by assumption) | exact gm_rs (by assumption) | exact gm_M (by assumption) | exact gm_R (by assumption) (by assumption) | exact gm_za (by decide) (by decide)) rfl ⟨by decide, by decide, rfl⟩ (show _ = some (11, i, ρ (x + 1)) by rw [sShift_at, if_neg (by omega)]; exact (h10 (x + 1) (by omega)).1) (nI_succ x).symm (by omega) (by decide) ?_
    refine gz_aastore (pc := 32) cx qd_N_endRelay_32 (by first | exact gm_tb (by assumption) | exact gm_ns | exact gm_cf | exact gm_w (by assumption) | exact gm_nw (by assumption) | exact gm_rs (by assumption) | exact gm_M (by assumption) | exact gm_R (by assumption) (by assumption) | exact gm_za (by decide) (by decide)) (gm_R hi (h10 (x + 1) (by omega)).2) rfl rfl ⟨by decide, by decide, rfl⟩ rfl rfl (by omega) (by decide) ?_
    refine gz_iinc (pc := 33) cx qd_N_endRelay_33 rfl (g_inc x) ?_
    refine gz_goto (tgt := 9) (pc := 36) cx qd_N_endRelay_36 (by decide) ?_
    rw [← (h10 (x + 1) (by omega)).1, sShift_s hkx]
    exact ih (by omega)
theorem gc_N_takeAck {G : gG} {la : Launch} {M : mM} {p i0 a : Nat} {msg : List Int32} {S : gS} {i : Nat} (hi : i < G.1) (h : CR G M p i0 (some (a, msg)) S) (hlen : M.2.2.length < 60) : gM G la qy_N_takeAck qw_N_takeAck 3 0 0 (gTt G) (gTt G) [.inr (some (7, i, 0)), .inr (some (5, a, 0))] S (fun v S' => v = none ∧ CR G (mAck G.1 M i (msg.getD 3 0) (msg.getD 4 0) (msg.getD 5 0)) p i0 (some (a, msg)) S' ∧ gFr S S') := by
  refine gM_of (cc := qc_N_takeAck) (maxL := 3) (by decide) rfl (Nat.le_of_ble_eq_true rfl) ?_
  intro E cx hr hnm hcz hsz hEl
  subst hEl
  have hst := h.1.1
  have hid := (h.1.2.2.2.1 i hi).1
  have h8 := h.1.2.1
  obtain ⟨ha, hmsg⟩ := h.cur
  obtain ⟨c, hc8, hml, hm6, hmf, hmn⟩ := hmsg
  obtain ⟨ρ, a1, a2, a3, a4, a5⟩ := h.2.2.2.1 i hi
  have e11 : S.1 (7, i, 0) 11 = M.1 21 i 0 := h.2.2.1 i 11 hi (by decide) (by decide) (by decide)
  have e10 : S.1 (7, i, 0) 10 = M.1 20 i 0 := h.2.2.1 i 10 hi (by decide) (by decide) (by decide)
  have m3 := hmf 3 (by decide)
  have m4 := hmf 4 (by decide)
  have m5 := hmf 5 (by decide)
  refine gz_aload_n (pc := 0) cx qd_N_takeAck_0 rfl rfl ?_
  refine gz_getV (pc := 1) cx qf_N_144 qd_N_takeAck_1 (gm_M (by assumption)) rfl rfl m4 ?_
  refine gz_aload_n (pc := 4) cx qd_N_takeAck_4 rfl rfl ?_
  refine gz_getV (pc := 5) cx qf_N_17 qd_N_takeAck_5 (gm_N (by assumption)) rfl rfl hid ?_
  refine gz_icmp_ne (tgt := 25) (pc := 8) cx qd_N_takeAck_8 (by decide) (fun h8x0 => ?_) (fun h8x0 => ?_)
  · refine gz_iconst (v := 0) (pc := 25) cx qd_N_takeAck_25 (by decide) ?_
    refine gz_istore_n (pc := 26) cx qd_N_takeAck_26 rfl (Nat.le_of_ble_eq_true rfl) ?_
    have h8x : ¬ msg.getD 4 0 = nI i := h8x0
    suffices hh : ∀ k, k ≤ (M.2.1 i).length → (∀ j, j < k → ¬ (((M.2.1 i).getD j []).getD 0 0 = msg.getD 3 0 ∧ ((M.2.1 i).getD j []).getD 1 0 = msg.getD 4 0 ∧ ((M.2.1 i).getD j []).getD 2 0 = msg.getD 5 0)) → gZ G E 0 0 (gEnd G E 0 0 (gTt G) (fun v S' => v = none ∧ CR G (mAck G.1 M i (msg.getD 3 0) (msg.getD 4 0) (msg.getD 5 0)) p i0 (some (a, msg)) S' ∧ gFr S S')) (gTt G) 27 [some (.inr (some (7, i, 0))), some (.inr (some (5, a, 0))), some (.inl (nI k))] [] S by
      exact hh 0 (Nat.zero_le _) (fun j q => absurd q (by omega))
    refine g_upto ?_ ?_
    · intro hno
      refine gz_iload_n (pc := 27) cx qd_N_takeAck_27 rfl rfl ?_
      refine gz_aload_n (pc := 28) cx qd_N_takeAck_28 rfl rfl ?_
      refine gz_getV (pc := 29) cx qf_N_53 qd_N_takeAck_29 (gm_N (by assumption)) rfl rfl a2 ?_
      refine gz_icmp_ge (tgt := 81) (pc := 32) cx qd_N_takeAck_32 (by decide) (fun _ => ?_) (fun h32 => absurd (Int32.le_refl _) h32)
      refine gz_return (pc := 81) cx hr qd_N_takeAck_81 ?_
      have hf : mFind (M.2.1 i) (msg.getD 3 0) (msg.getD 4 0) (msg.getD 5 0) = none := by
        unfold mFind
        rw [List.findIdx?_eq_none_iff]
        intro x hx
        obtain ⟨j, hj, rfl⟩ := List.getElem_of_mem hx
        have := hno j hj
        rw [getD_at hj] at this
        simpa using this
      unfold mAck
      rw [if_neg h8x, hf]
      exact ⟨rfl, h, gFr.rf⟩
    · intro k hk ih hno
      have hk4 : k < 4 := by omega
      refine gz_iload_n (pc := 27) cx qd_N_takeAck_27 rfl rfl ?_
      refine gz_aload_n (pc := 28) cx qd_N_takeAck_28 rfl rfl ?_
      refine gz_getV (pc := 29) cx qf_N_53 qd_N_takeAck_29 (gm_N (by assumption)) rfl rfl a2 ?_
      refine gz_icmp_ge (tgt := 81) (pc := 32) cx qd_N_takeAck_32 (by decide) (fun h32 => absurd h32 (nI_ge hk (by omega))) (fun _ => ?_)
      refine gz_aload_n (pc := 35) cx qd_N_takeAck_35 rfl rfl ?_
      refine gz_getR (pc := 36) cx qf_N_13 qd_N_takeAck_36 (gm_N (by assumption)) rfl rfl (hst _ _ _ rfl) ?_
      refine gz_iload_n (pc := 39) cx qd_N_takeAck_39 rfl rfl ?_
      refine gz_aaload (pc := 40) cx qd_N_takeAck_40 (by first | exact gm_tb (by assumption) | exact gm_ns | exact gm_cf | exact gm_w (by assumption) | exact gm_nw (by assumption) | exact gm_rs (by assumption) | exact gm_M (by assumption) | exact gm_R (by assumption) (by assumption) | exact gm_za (by decide) (by decide)) rfl ⟨by decide, by decide, rfl⟩ (a3 k hk4).1 rfl (by assumption) (by decide) ?_
      refine gz_aload_n (pc := 41) cx qd_N_takeAck_41 rfl rfl ?_
      refine gz_callV (pc := 42) cx qv_N_190 qd_N_takeAck_42 (gc_R_isFor hi (a3 k hk4).2 ha) (by decide) rfl (gm_R hi (a3 k hk4).2) rfl rfl rfl rfl (Nat.le_of_ble_eq_true rfl) ⟨Nat.zero_le _, Nat.zero_le _⟩ ?_
      rintro _ S' ⟨rfl, hS'⟩
      subst hS'
      rw [m3, m4, m5, a5 k hk 0 (by decide), a5 k hk 1 (by decide), a5 k hk 2 (by decide)]
      refine gz_if_eq (tgt := 75) (pc := 45) cx qd_N_takeAck_45 (by decide) (fun h45 => ?_) (fun h45 => ?_)
      · refine gz_iinc (pc := 75) cx qd_N_takeAck_75 rfl (g_inc k) ?_
        refine gz_goto (tgt := 27) (pc := 78) cx qd_N_takeAck_78 (by decide) ?_
        refine ih (fun j hj => ?_)
        by_cases e : j = k
        · subst e; exact bI_f h45
        · exact hno j (by omega)
      · refine gz_aload_n (pc := 48) cx qd_N_takeAck_48 rfl rfl ?_
        refine gz_iload_n (pc := 49) cx qd_N_takeAck_49 rfl rfl ?_
        refine gz_callV (pc := 50) cx qv_N_193 qd_N_takeAck_50 (gc_N_endRelay hi hst a1 hk a2 a3) (by decide) rfl (gm_N (by assumption)) rfl rfl rfl rfl (Nat.le_of_ble_eq_true rfl) ⟨Nat.zero_le _, Nat.zero_le _⟩ ?_
        rintro _ _ ⟨rfl, rfl⟩
        obtain ⟨c1, f1⟩ := h.endRelay (k := k) hi hk
        obtain ⟨-, c9, -, -, -, hmf', -⟩ := c1.cur
        refine gz_aload_n (pc := 53) cx qd_N_takeAck_53 rfl rfl ?_
        refine gz_iconst (v := 2) (pc := 54) cx qd_N_takeAck_54 (by decide) ?_
        refine gz_aload_n (pc := 55) cx qd_N_takeAck_55 rfl rfl ?_
        refine gz_getV (pc := 56) cx qf_N_144 qd_N_takeAck_56 (gm_M (by assumption)) rfl rfl (hmf' 4 (by decide)) ?_
        refine gz_aload_n (pc := 59) cx qd_N_takeAck_59 rfl rfl ?_
        refine gz_getV (pc := 60) cx qf_N_141 qd_N_takeAck_60 (gm_M (by assumption)) rfl rfl (hmf' 3 (by decide)) ?_
        refine gz_aload_n (pc := 63) cx qd_N_takeAck_63 rfl rfl ?_
        refine gz_getV (pc := 64) cx qf_N_144 qd_N_takeAck_64 (gm_M (by assumption)) rfl rfl (hmf' 4 (by decide)) ?_
        refine gz_aload_n (pc := 67) cx qd_N_takeAck_67 rfl rfl ?_
        refine gz_getV (pc := 68) cx qf_N_147 qd_N_takeAck_68 (gm_M (by assumption)) rfl rfl (hmf' 5 (by decide)) ?_
        refine gz_callV (pc := 71) cx qv_N_89 qd_N_takeAck_71 (gc_send hi c1 (Or.inr hlen)) (by decide) rfl (gm_N (by assumption)) rfl rfl rfl rfl (Nat.le_of_ble_eq_true rfl) ⟨Nat.zero_le _, Nat.zero_le _⟩ ?_
        rintro _ S' ⟨rfl, c2, f2⟩
        refine gz_return (pc := 74) cx hr qd_N_takeAck_74 ?_
        have hf : mFind (M.2.1 i) (msg.getD 3 0) (msg.getD 4 0) (msg.getD 5 0) = some k := by
          unfold mFind
          rw [List.findIdx?_eq_some_iff_getElem]
          have hy := bI_t h45
          rw [getD_at hk] at hy
          refine ⟨hk, by simpa using hy, fun j hj => ?_⟩
          have := hno j hj
          rw [getD_at (by omega)] at this
          simpa using this
        unfold mAck
        rw [if_neg h8x, hf]
        exact ⟨rfl, c2, f1.tr f2⟩
  · refine gz_aload_n (pc := 11) cx qd_N_takeAck_11 rfl rfl ?_
    refine gz_aload_n (pc := 12) cx qd_N_takeAck_12 rfl rfl ?_
    refine gz_callV (pc := 13) cx qv_N_156 qd_N_takeAck_13 (gc_N_isOfProbe hi ha) (by decide) rfl (gm_N (by assumption)) rfl rfl rfl rfl (Nat.le_of_ble_eq_true rfl) ⟨Nat.zero_le _, Nat.zero_le _⟩ ?_
    rintro _ S' ⟨rfl, hS'⟩
    subst hS'
    refine gz_if_eq (tgt := 24) (pc := 16) cx qd_N_takeAck_16 (by decide) (fun h16 => ?_) (fun h16 => ?_)
    · refine gz_return (pc := 24) cx hr qd_N_takeAck_24 ?_
      have hp := bI_f h16
      rw [e11, m3, e10] at hp
      unfold mAck
      rw [if_pos h8x0, if_neg hp]
      exact ⟨rfl, h, gFr.rf⟩
    · refine gz_aload_n (pc := 19) cx qd_N_takeAck_19 rfl rfl ?_
      refine gz_iconst (v := 1) (pc := 20) cx qd_N_takeAck_20 (by decide) ?_
      refine gz_putI (pc := 21) cx qp_N_71 qd_N_takeAck_21 (gm_N (by assumption)) rfl rfl ⟨by decide, by decide⟩ (fun h => nomatch h) ?_
      refine gz_return (pc := 24) cx hr qd_N_takeAck_24 ?_
      have hp := bI_t h16
      rw [e11, m3, e10] at hp
      unfold mAck
      rw [if_pos h8x0, if_pos hp]
      obtain ⟨c1, f1⟩ := h.N (i := i) (f := 14) (by decide) (by decide) (by decide) 1
      exact ⟨rfl, c1, f1⟩
theorem gc_N_takeAsk {G : gG} {la : Launch} {M : mM} {p i0 a : Nat} {msg : List Int32} {S : gS} {i : Nat} (hi : i < G.1) (h : CR G M p i0 (some (a, msg)) S) (hlen : M.2.2.length < 60) : gM G la qy_N_takeAsk qw_N_takeAsk 3 0 0 (gTt G) (gTt G) [.inr (some (7, i, 0)), .inr (some (5, a, 0))] S (fun v S' => v = none ∧ CR G (mAsk G.1 M i (msg.getD 3 0) (msg.getD 4 0) (msg.getD 5 0)) p i0 (some (a, msg)) S' ∧ gFr S S') := by
  refine gM_of (cc := qc_N_takeAsk) (maxL := 3) (by decide) rfl (Nat.le_of_ble_eq_true rfl) ?_
  intro E cx hr hnm hcz hsz hEl
  subst hEl
  have hst := h.1.1
  have hid := (h.1.2.2.2.1 i hi).1
  have h8 := h.1.2.1
  obtain ⟨ha, hmsg⟩ := h.cur
  obtain ⟨c, hc8, hml, hm6, hmf, hmn⟩ := hmsg
  obtain ⟨ρ, a1, a2, a3, a4, a5⟩ := h.2.2.2.1 i hi
  have e11 : S.1 (7, i, 0) 11 = M.1 21 i 0 := h.2.2.1 i 11 hi (by decide) (by decide) (by decide)
  have e10 : S.1 (7, i, 0) 10 = M.1 20 i 0 := h.2.2.1 i 10 hi (by decide) (by decide) (by decide)
  have m3 := hmf 3 (by decide)
  have m4 := hmf 4 (by decide)
  have m5 := hmf 5 (by decide)
  refine gz_aload_n (pc := 0) cx qd_N_takeAsk_0 rfl rfl ?_
  refine gz_getV (pc := 1) cx qf_N_53 qd_N_takeAsk_1 (gm_N (by assumption)) rfl rfl a2 ?_
  refine gz_iconst (v := 4) (pc := 4) cx qd_N_takeAsk_4 (by decide) ?_
  refine gz_icmp_lt (tgt := 9) (pc := 5) cx qd_N_takeAsk_5 (by decide) (fun h5 => ?_) (fun h5 => ?_)
  · have h4 : (M.2.1 i).length < 4 := (nI_ltI (by omega) (by decide)).mp h5
    refine gz_aload_n (pc := 9) cx qd_N_takeAsk_9 rfl rfl ?_
    refine gz_getR (pc := 10) cx qf_N_13 qd_N_takeAsk_10 (gm_N (by assumption)) rfl rfl (hst _ _ _ rfl) ?_
    refine gz_aload_n (pc := 13) cx qd_N_takeAsk_13 rfl rfl ?_
    refine gz_getV (pc := 14) cx qf_N_53 qd_N_takeAsk_14 (gm_N (by assumption)) rfl rfl a2 ?_
    refine gz_aaload (pc := 17) cx qd_N_takeAsk_17 (by first | exact gm_tb (by assumption) | exact gm_ns | exact gm_cf | exact gm_w (by assumption) | exact gm_nw (by assumption) | exact gm_rs (by assumption) | exact gm_M (by assumption) | exact gm_R (by assumption) (by assumption) | exact gm_za (by decide) (by decide)) rfl ⟨by decide, by decide, rfl⟩ (a3 _ h4).1 rfl h4 (by decide) ?_
    refine gz_astore_n (pc := 18) cx qd_N_takeAsk_18 rfl (Nat.le_of_ble_eq_true rfl) ?_
    refine gz_aload_n (pc := 19) cx qd_N_takeAsk_19 rfl rfl ?_
    refine gz_dup (pc := 20) cx qd_N_takeAsk_20 ?_
    refine gz_getV (pc := 21) cx qf_N_53 qd_N_takeAsk_21 (gm_N (by assumption)) rfl rfl a2 ?_
    refine gz_iconst (v := 1) (pc := 24) cx qd_N_takeAsk_24 (by decide) ?_
    refine gz_iadd (pc := 25) cx qd_N_takeAsk_25 ?_
    refine gz_putI (pc := 26) cx qp_N_53 qd_N_takeAsk_26 (gm_N (by assumption)) rfl rfl ⟨rfl, rfl⟩ (fun h => nomatch h) ?_
    refine gz_aload_n (pc := 29) cx qd_N_takeAsk_29 rfl rfl ?_
    refine gz_aload_n (pc := 30) cx qd_N_takeAsk_30 rfl rfl ?_
    refine gz_getV (pc := 31) cx qf_N_141 qd_N_takeAsk_31 (gm_M (by assumption)) rfl rfl m3 ?_
    refine gz_putI (pc := 34) cx qp_N_196 qd_N_takeAsk_34 (gm_R hi (a3 _ h4).2) rfl rfl ⟨rfl, rfl⟩ (fun h => nomatch h) ?_
    refine gz_aload_n (pc := 37) cx qd_N_takeAsk_37 rfl rfl ?_
    refine gz_aload_n (pc := 38) cx qd_N_takeAsk_38 rfl rfl ?_
    refine gz_getV (pc := 39) cx qf_N_144 qd_N_takeAsk_39 (gm_M (by assumption)) rfl rfl m4 ?_
    refine gz_putI (pc := 42) cx qp_N_197 qd_N_takeAsk_42 (gm_R hi (a3 _ h4).2) rfl rfl ⟨rfl, rfl⟩ (fun h => nomatch h) ?_
    refine gz_aload_n (pc := 45) cx qd_N_takeAsk_45 rfl rfl ?_
    refine gz_aload_n (pc := 46) cx qd_N_takeAsk_46 rfl rfl ?_
    refine gz_getV (pc := 47) cx qf_N_147 qd_N_takeAsk_47 (gm_M (by assumption)) rfl rfl m5 ?_
    refine gz_putI (pc := 50) cx qp_N_198 qd_N_takeAsk_50 (gm_R hi (a3 _ h4).2) rfl rfl ⟨rfl, rfl⟩ (fun h => nomatch h) ?_
    refine gz_aload_n (pc := 53) cx qd_N_takeAsk_53 rfl rfl ?_
    refine gz_iconst (v := 0) (pc := 54) cx qd_N_takeAsk_54 (by decide) ?_
    refine gz_putI (pc := 55) cx qp_N_199 qd_N_takeAsk_55 (gm_R hi (a3 _ h4).2) rfl rfl ⟨rfl, rfl⟩ (fun h => nomatch h) ?_
    obtain ⟨c1, f1⟩ := h.addRelay (no := msg.getD 3 0) (o := msg.getD 4 0) (g := msg.getD 5 0) hi h4 (a3 _ h4).1
    rw [nI_succ] at c1 f1
    obtain ⟨-, c9, -, -, -, hmf', -⟩ := c1.cur
    refine gz_aload_n (pc := 58) cx qd_N_takeAsk_58 rfl rfl ?_
    refine gz_iconst (v := 1) (pc := 59) cx qd_N_takeAsk_59 (by decide) ?_
    refine gz_aload_n (pc := 60) cx qd_N_takeAsk_60 rfl rfl ?_
    refine gz_getV (pc := 61) cx qf_N_147 qd_N_takeAsk_61 (gm_M (by assumption)) rfl rfl (hmf' 5 (by decide)) ?_
    refine gz_aload_n (pc := 64) cx qd_N_takeAsk_64 rfl rfl ?_
    refine gz_getV (pc := 65) cx qf_N_141 qd_N_takeAsk_65 (gm_M (by assumption)) rfl rfl (hmf' 3 (by decide)) ?_
    refine gz_aload_n (pc := 68) cx qd_N_takeAsk_68 rfl rfl ?_
    refine gz_getV (pc := 69) cx qf_N_144 qd_N_takeAsk_69 (gm_M (by assumption)) rfl rfl (hmf' 4 (by decide)) ?_
    refine gz_aload_n (pc := 72) cx qd_N_takeAsk_72 rfl rfl ?_
    refine gz_getV (pc := 73) cx qf_N_147 qd_N_takeAsk_73 (gm_M (by assumption)) rfl rfl (hmf' 5 (by decide)) ?_
    refine gz_callV (pc := 76) cx qv_N_89 qd_N_takeAsk_76 (gc_send hi c1 (Or.inr hlen)) (by decide) rfl (gm_N (by assumption)) rfl rfl rfl rfl (Nat.le_of_ble_eq_true rfl) ⟨Nat.zero_le _, Nat.zero_le _⟩ ?_
    rintro _ S' ⟨rfl, c2, f2⟩
    refine gz_return (pc := 79) cx hr qd_N_takeAsk_79 ?_
    unfold mAsk
    rw [if_neg (by omega)]
    exact ⟨rfl, c2, f1.tr f2⟩
  · refine gz_return (pc := 8) cx hr qd_N_takeAsk_8 ?_
    have h4 : ¬ (M.2.1 i).length < 4 := fun q => h5 (nI_lt q (by decide))
    unfold mAsk
    rw [if_pos (by omega)]
    exact ⟨rfl, h, gFr.rf⟩
