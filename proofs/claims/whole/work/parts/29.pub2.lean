theorem bB_t {b : Bool} (h : ¬ bI b = 0) : b = true := by
  cases b with
  | true => rfl
  | false => exact absurd rfl h
theorem bB_f {b : Bool} (h : bI b = 0) : b = false := by
  cases b with
  | true => exact absurd h (by decide)
  | false => rfl
theorem bI_z {b : Bool} : narrow .boolean (.int (bI b)) = .int (bI b) := by cases b <;> decide
theorem mIs_f1 {n : Nat} {x : Int32} (h : x < 0) : mIs n x = false := decide_eq_false (fun q => absurd h (Int32.not_lt.mpr q.1))
theorem mIs_f2 {n : Nat} {x : Int32} (h : nI n ≤ x) : mIs n x = false := decide_eq_false (fun q => absurd q.2 (Int32.not_lt.mpr h))
theorem mIs_t {n : Nat} {x : Int32} (h : ¬ x < 0) (h2 : ¬ nI n ≤ x) : mIs n x = true := decide_eq_true ⟨Int32.not_lt.mp h, Int32.not_le.mp h2⟩
theorem mIs_nI {n j : Nat} (h : j < n) (hn : n < 2 ^ 31) : mIs n (nI j) = true := (mIs_iff hn).mpr ⟨j, h, rfl⟩
theorem mRun_nI {n j : Nat} {M : mM} (h : j < n) (hn : n < 2 ^ 31) : mRun n M (nI j) = !decide (M.1 15 j 0 = 0) := by
  unfold mRun
  rw [mIs_nI h hn, nI_clamp (by omega)]; rfl
def oDrop (M : mM) (x : Int32) : mM := if mIs M.2.2.length x = true then mFl M (M.2.2.eraseIdx x.toNatClampNeg) else M
def oSwap (M : mM) (x : Int32) : mM := if mIs (M.2.2.length - 1) x = true then mFl M (mSwap M.2.2 x.toNatClampNeg) else M
theorem gc_F_lose {G : gG} {la : Launch} {M : mM} {S : gS} {x : Int32} (h : CR G M 0 0 none S) : gM G la qy_F_lose qw_F_lose 0 0 0 (gTt G) (gTt G) [.inr (some (3, 0, 0)), .inl x] S (fun v S' => v = some (.inl (bI (mIs M.2.2.length x))) ∧ CR G (oDrop M x) 0 0 none S' ∧ gFr S S') := by
  refine gM_of (cc := qc_F_lose) (maxL := 4) (by decide) rfl (Nat.le_of_ble_eq_true rfl) ?_
  intro E cx hr hnm hcz hsz hEl
  subst hEl
  have hF := h.2.2.2.2.2
  obtain ⟨b, σ, hb, a1, a2, a3, a4, a5, a6, a7, a8, a9, a10, a11⟩ := h.2.2.2.2.2
  rw [Nat.sub_zero] at a6 a7
  refine gz_iload_n (pc := 0) cx qd_F_lose_0 rfl rfl ?_
  refine gz_if_lt (tgt := 12) (pc := 1) cx qd_F_lose_1 (by decide) (fun h1 => ?_) (fun h1 => ?_)
  · refine gz_iconst (v := 0) (pc := 12) cx qd_F_lose_12 (by decide) ?_
    refine gz_ireturn (pc := 13) cx hr (by decide) qd_F_lose_13 ?_
    unfold oDrop
    rw [mIs_f1 h1]
    exact ⟨rfl, h, gFr.rf⟩
  · refine gz_iload_n (pc := 4) cx qd_F_lose_4 rfl rfl ?_
    refine gz_aload_n (pc := 5) cx qd_F_lose_5 rfl rfl ?_
    refine gz_getV (pc := 6) cx qf_F_23 qd_F_lose_6 gm_F rfl rfl a7 ?_
    refine gz_icmp_lt (tgt := 14) (pc := 9) cx qd_F_lose_9 (by decide) (fun h9 => ?_) (fun h9 => ?_)
    · obtain ⟨k, hk, rfl⟩ := (mIs_iff (by omega)).mp (mIs_t h1 (Int32.not_le.mpr h9))
      have hpred : nI M.2.2.length - 1 = nI (M.2.2.length - 1) := by
        obtain ⟨z, hz⟩ : ∃ z, M.2.2.length = z + 1 := ⟨M.2.2.length - 1, by omega⟩
        rw [hz]; exact nI_pred z
      suffices hh : ∀ y, y ≤ M.2.2.length - 1 → k ≤ y → gZ G E 0 0 (gEnd G E 0 0 (gTt G) (fun v S' => v = some (.inl (bI (mIs M.2.2.length (nI k)))) ∧ CR G (oDrop M (nI k)) 0 0 none S' ∧ gFr S S')) (gTt G) 23 [some (.inr (some (3, 0, 0))), some (.inl (nI k)), some (.inr (some (5, σ b k, 0))), some (.inl (nI y))] [] (sShift S (4, b, 0) k y) by
        refine gz_aload_n (pc := 14) cx qd_F_lose_14 rfl rfl ?_
        refine gz_getR (pc := 15) cx qf_F_11 qd_F_lose_15 gm_F rfl rfl a1 ?_
        refine gz_iload_n (pc := 18) cx qd_F_lose_18 rfl rfl ?_
        refine gz_aaload (pc := 19) cx qd_F_lose_19 (by first | exact gm_tb (by assumption) | exact gm_ns | exact gm_cf | exact gm_w (by assumption) | exact gm_nw (by assumption) | exact gm_rs (by assumption) | exact gm_M (by assumption) | exact gm_R (by assumption) (by assumption) | exact gm_za (by decide) (by decide)) rfl ⟨by decide, by decide, rfl⟩ (a3 b k hb (by omega)).1 rfl (by omega) (by decide) ?_
        refine gz_astore_n (pc := 20) cx qd_F_lose_20 rfl (Nat.le_of_ble_eq_true rfl) ?_
        refine gz_iload_n (pc := 21) cx qd_F_lose_21 rfl rfl ?_
        refine gz_istore_n (pc := 22) cx qd_F_lose_22 rfl (Nat.le_of_ble_eq_true rfl) ?_
        have h0 := hh k (by omega) (Nat.le_refl _)
        rw [sShift_0] at h0
        exact h0
      refine g_upto ?_ ?_
      · intro hky
        refine gz_iload_n (pc := 23) cx qd_F_lose_23 rfl rfl ?_
        refine gz_aload_n (pc := 24) cx qd_F_lose_24 rfl rfl ?_
        refine gz_getV (pc := 25) cx qf_F_23 qd_F_lose_25 gm_F rfl rfl a7 ?_
        refine gz_iconst (v := 1) (pc := 28) cx qd_F_lose_28 (by decide) ?_
        refine gz_isub (pc := 29) cx qd_F_lose_29 ?_
        refine gz_icmp_ge (tgt := 53) (pc := 30) cx qd_F_lose_30 (by decide) (fun _ => ?_) (fun h30 => absurd (by rw [hpred]; exact Int32.le_refl _) h30)
        refine gz_aload_n (pc := 53) cx qd_F_lose_53 rfl rfl ?_
        refine gz_dup (pc := 54) cx qd_F_lose_54 ?_
        refine gz_getV (pc := 55) cx qf_F_23 qd_F_lose_55 gm_F rfl rfl a7 ?_
        refine gz_iconst (v := 1) (pc := 58) cx qd_F_lose_58 (by decide) ?_
        refine gz_isub (pc := 59) cx qd_F_lose_59 ?_
        refine gz_putI (pc := 60) cx qp_F_23 qd_F_lose_60 gm_F rfl rfl ⟨rfl, rfl⟩ (fun h => nomatch h) ?_
        refine gz_aload_n (pc := 63) cx qd_F_lose_63 rfl rfl ?_
        refine gz_getR (pc := 64) cx qf_F_11 qd_F_lose_64 gm_F rfl rfl (show (sShift S (4, b, 0) k (M.2.2.length - 1)).2 (3, 0, 0) 0 = some (4, b, 0) from (sShift_ne (by simp)).trans a1) ?_
        refine gz_aload_n (pc := 67) cx qd_F_lose_67 rfl rfl ?_
        refine gz_getV (pc := 68) cx qf_F_23 qd_F_lose_68 gm_F rfl rfl (show _ = nI M.2.2.length - 1 by rw [gI1, if_pos ⟨rfl, rfl⟩]) ?_
        refine gz_aload_n (pc := 71) cx qd_F_lose_71 rfl rfl ?_
        refine gz_aastore (pc := 72) cx qd_F_lose_72 (by first | exact gm_tb (by assumption) | exact gm_ns | exact gm_cf | exact gm_w (by assumption) | exact gm_nw (by assumption) | exact gm_rs (by assumption) | exact gm_M (by assumption) | exact gm_R (by assumption) (by assumption) | exact gm_za (by decide) (by decide)) (gm_M (show σ b k < 121 by have := (a3 b k hb (by omega)).2; omega)) rfl rfl ⟨by decide, by decide, rfl⟩ rfl hpred (by omega) (by decide) ?_
        refine gz_iconst (v := 1) (pc := 73) cx qd_F_lose_73 (by decide) ?_
        refine gz_ireturn (pc := 74) cx hr (by decide) qd_F_lose_74 ?_
        obtain ⟨c1, f1⟩ := h.F (S' := sLose S b k M.2.2.length) (fun k2 f hne => by unfold sLose; rw [gX1, gI1, if_neg (fun q => hne q.1)]; rfl) (fun k2 f hne h4 => by unfold sLose; rw [gX2, if_neg (fun q => h4 (by rw [q.1])), gI2, sShift_ne (fun q => h4 (by rw [q]))]) (by unfold sLose; rw [gX2, if_neg (fun q => by simp at q), gI2, sShift_ne (by simp)]) (hF.lose a1 hk)
        refine ⟨by rw [mIs_nI hk (by omega)]; rfl, ?_, ?_⟩
        · unfold oDrop
          rw [if_pos (mIs_nI hk (by omega)), nI_clamp (by omega)]
          unfold sLose at c1
          rw [(a3 b k hb (by omega)).1, ← hpred] at c1
          exact c1
        · unfold sLose at f1
          rw [(a3 b k hb (by omega)).1, ← hpred] at f1
          exact f1
      · intro y hy ih hky
        refine gz_iload_n (pc := 23) cx qd_F_lose_23 rfl rfl ?_
        refine gz_aload_n (pc := 24) cx qd_F_lose_24 rfl rfl ?_
        refine gz_getV (pc := 25) cx qf_F_23 qd_F_lose_25 gm_F rfl rfl a7 ?_
        refine gz_iconst (v := 1) (pc := 28) cx qd_F_lose_28 (by decide) ?_
        refine gz_isub (pc := 29) cx qd_F_lose_29 ?_
        refine gz_icmp_ge (tgt := 53) (pc := 30) cx qd_F_lose_30 (by decide) (fun h30 => absurd h30 (by rw [hpred]; exact nI_ge hy (by omega))) (fun _ => ?_)
        refine gz_aload_n (pc := 33) cx qd_F_lose_33 rfl rfl ?_
        refine gz_getR (pc := 34) cx qf_F_11 qd_F_lose_34 gm_F rfl rfl (show (sShift S (4, b, 0) k y).2 (3, 0, 0) 0 = some (4, b, 0) from (sShift_ne (by simp)).trans a1) ?_
        refine gz_iload_n (pc := 37) cx qd_F_lose_37 rfl rfl ?_
        refine gz_aload_n (pc := 38) cx qd_F_lose_38 rfl rfl ?_
        refine gz_getR (pc := 39) cx qf_F_11 qd_F_lose_39 gm_F rfl rfl (show (sShift S (4, b, 0) k y).2 (3, 0, 0) 0 = some (4, b, 0) from (sShift_ne (by simp)).trans a1) ?_
        refine gz_iload_n (pc := 42) cx qd_F_lose_42 rfl rfl ?_
        refine gz_iconst (v := 1) (pc := 43) cx qd_F_lose_43 (by decide) ?_
        refine gz_iadd (pc := 44) cx qd_F_lose_44 ?_
        refine gz_aaload (pc := 45) cx qd_F_lose_45 (by first | exact gm_tb (by assumption) | exact gm_ns | exact gm_cf | exact gm_w (by assumption) | exact gm_nw (by assumption) | exact gm_rs (by assumption) | exact gm_M (by assumption) | exact gm_R (by assumption) (by assumption) | exact gm_za (by decide) (by decide)) rfl ⟨by decide, by decide, rfl⟩ (show _ = some (5, σ b (y + 1), 0) by rw [sShift_at, if_neg (by omega)]; exact (a3 b (y + 1) hb (by omega)).1) (nI_succ y).symm (by omega) (by decide) ?_
        refine gz_aastore (pc := 46) cx qd_F_lose_46 (by first | exact gm_tb (by assumption) | exact gm_ns | exact gm_cf | exact gm_w (by assumption) | exact gm_nw (by assumption) | exact gm_rs (by assumption) | exact gm_M (by assumption) | exact gm_R (by assumption) (by assumption) | exact gm_za (by decide) (by decide)) (gm_M (show σ b (y + 1) < 121 by have := (a3 b (y + 1) hb (by omega)).2; omega)) rfl rfl ⟨by decide, by decide, rfl⟩ rfl rfl (by omega) (by decide) ?_
        refine gz_iinc (pc := 47) cx qd_F_lose_47 rfl (g_inc y) ?_
        refine gz_goto (tgt := 23) (pc := 50) cx qd_F_lose_50 (by decide) ?_
        rw [← (a3 b (y + 1) hb (by omega)).1, sShift_s hky]
        exact ih (by omega)
    · refine gz_iconst (v := 0) (pc := 12) cx qd_F_lose_12 (by decide) ?_
      refine gz_ireturn (pc := 13) cx hr (by decide) qd_F_lose_13 ?_
      unfold oDrop
      rw [mIs_f2 (Int32.not_lt.mp h9)]
      exact ⟨rfl, h, gFr.rf⟩
theorem gc_F_overtake {G : gG} {la : Launch} {M : mM} {S : gS} {x : Int32} (h : CR G M 0 0 none S) : gM G la qy_F_overtake qw_F_overtake 0 0 0 (gTt G) (gTt G) [.inr (some (3, 0, 0)), .inl x] S (fun v S' => v = some (.inl (bI (mIs (M.2.2.length - 1) x))) ∧ CR G (oSwap M x) 0 0 none S' ∧ gFr S S') := by
  refine gM_of (cc := qc_F_overtake) (maxL := 3) (by decide) rfl (Nat.le_of_ble_eq_true rfl) ?_
  intro E cx hr hnm hcz hsz hEl
  subst hEl
  have hF := h.2.2.2.2.2
  obtain ⟨b, σ, hb, a1, a2, a3, a4, a5, a6, a7, a8, a9, a10, a11⟩ := h.2.2.2.2.2
  rw [Nat.sub_zero] at a6 a7
  refine gz_iload_n (pc := 0) cx qd_F_overtake_0 rfl rfl ?_
  refine gz_if_lt (tgt := 14) (pc := 1) cx qd_F_overtake_1 (by decide) (fun h1 => ?_) (fun h1 => ?_)
  · refine gz_iconst (v := 0) (pc := 14) cx qd_F_overtake_14 (by decide) ?_
    refine gz_ireturn (pc := 15) cx hr (by decide) qd_F_overtake_15 ?_
    unfold oSwap
    rw [mIs_f1 h1]
    exact ⟨rfl, h, gFr.rf⟩
  · refine gz_iload_n (pc := 4) cx qd_F_overtake_4 rfl rfl ?_
    refine gz_aload_n (pc := 5) cx qd_F_overtake_5 rfl rfl ?_
    refine gz_getV (pc := 6) cx qf_F_23 qd_F_overtake_6 gm_F rfl rfl a7 ?_
    refine gz_iconst (v := 1) (pc := 9) cx qd_F_overtake_9 (by decide) ?_
    refine gz_isub (pc := 10) cx qd_F_overtake_10 ?_
    refine gz_icmp_lt (tgt := 16) (pc := 11) cx qd_F_overtake_11 (by decide) (fun h11 => ?_) (fun h11 => ?_)
    · have hl1 : 1 ≤ M.2.2.length := by
        apply Classical.byContradiction
        intro q
        have e : M.2.2.length = 0 := by omega
        rw [e] at h11
        exact h1 (Int32.lt_trans h11 (by decide))
      have hpred : nI M.2.2.length - 1 = nI (M.2.2.length - 1) := by
        obtain ⟨z, hz⟩ : ∃ z, M.2.2.length = z + 1 := ⟨M.2.2.length - 1, by omega⟩
        rw [hz]; exact nI_pred z
      rw [hpred] at h11
      obtain ⟨k, hk, rfl⟩ := (mIs_iff (by omega)).mp (mIs_t h1 (Int32.not_le.mpr h11))
      have e1 := (a3 b k hb (by omega))
      have e2 := (a3 b (k + 1) hb (by omega))
      refine gz_aload_n (pc := 16) cx qd_F_overtake_16 rfl rfl ?_
      refine gz_getR (pc := 17) cx qf_F_11 qd_F_overtake_17 gm_F rfl rfl a1 ?_
      refine gz_iload_n (pc := 20) cx qd_F_overtake_20 rfl rfl ?_
      refine gz_aaload (pc := 21) cx qd_F_overtake_21 (by first | exact gm_tb (by assumption) | exact gm_ns | exact gm_cf | exact gm_w (by assumption) | exact gm_nw (by assumption) | exact gm_rs (by assumption) | exact gm_M (by assumption) | exact gm_R (by assumption) (by assumption) | exact gm_za (by decide) (by decide)) rfl ⟨by decide, by decide, rfl⟩ e1.1 rfl (by omega) (by decide) ?_
      refine gz_astore_n (pc := 22) cx qd_F_overtake_22 rfl (Nat.le_of_ble_eq_true rfl) ?_
      refine gz_aload_n (pc := 23) cx qd_F_overtake_23 rfl rfl ?_
      refine gz_getR (pc := 24) cx qf_F_11 qd_F_overtake_24 gm_F rfl rfl a1 ?_
      refine gz_iload_n (pc := 27) cx qd_F_overtake_27 rfl rfl ?_
      refine gz_aload_n (pc := 28) cx qd_F_overtake_28 rfl rfl ?_
      refine gz_getR (pc := 29) cx qf_F_11 qd_F_overtake_29 gm_F rfl rfl a1 ?_
      refine gz_iload_n (pc := 32) cx qd_F_overtake_32 rfl rfl ?_
      refine gz_iconst (v := 1) (pc := 33) cx qd_F_overtake_33 (by decide) ?_
      refine gz_iadd (pc := 34) cx qd_F_overtake_34 ?_
      refine gz_aaload (pc := 35) cx qd_F_overtake_35 (by first | exact gm_tb (by assumption) | exact gm_ns | exact gm_cf | exact gm_w (by assumption) | exact gm_nw (by assumption) | exact gm_rs (by assumption) | exact gm_M (by assumption) | exact gm_R (by assumption) (by assumption) | exact gm_za (by decide) (by decide)) rfl ⟨by decide, by decide, rfl⟩ e2.1 (nI_succ k).symm (by omega) (by decide) ?_
      refine gz_aastore (pc := 36) cx qd_F_overtake_36 (by first | exact gm_tb (by assumption) | exact gm_ns | exact gm_cf | exact gm_w (by assumption) | exact gm_nw (by assumption) | exact gm_rs (by assumption) | exact gm_M (by assumption) | exact gm_R (by assumption) (by assumption) | exact gm_za (by decide) (by decide)) (gm_M (show σ b (k + 1) < 121 by have := e2.2; omega)) rfl rfl ⟨by decide, by decide, rfl⟩ rfl rfl (by omega) (by decide) ?_
      refine gz_aload_n (pc := 37) cx qd_F_overtake_37 rfl rfl ?_
      refine gz_getR (pc := 38) cx qf_F_11 qd_F_overtake_38 gm_F rfl rfl (show (gX S (4, b, 0) k _).2 (3, 0, 0) 0 = some (4, b, 0) by rw [gX2, if_neg (fun q => by simp at q)]; exact a1) ?_
      refine gz_iload_n (pc := 41) cx qd_F_overtake_41 rfl rfl ?_
      refine gz_iconst (v := 1) (pc := 42) cx qd_F_overtake_42 (by decide) ?_
      refine gz_iadd (pc := 43) cx qd_F_overtake_43 ?_
      refine gz_aload_n (pc := 44) cx qd_F_overtake_44 rfl rfl ?_
      refine gz_aastore (pc := 45) cx qd_F_overtake_45 (by first | exact gm_tb (by assumption) | exact gm_ns | exact gm_cf | exact gm_w (by assumption) | exact gm_nw (by assumption) | exact gm_rs (by assumption) | exact gm_M (by assumption) | exact gm_R (by assumption) (by assumption) | exact gm_za (by decide) (by decide)) (gm_M (show σ b k < 121 by have := e1.2; omega)) rfl rfl ⟨by decide, by decide, rfl⟩ rfl (nI_succ k).symm (by omega) (by decide) ?_
      refine gz_iconst (v := 1) (pc := 46) cx qd_F_overtake_46 (by decide) ?_
      refine gz_ireturn (pc := 47) cx hr (by decide) qd_F_overtake_47 ?_
      obtain ⟨c1, f1⟩ := h.F (S' := sSwap S b k) (fun k2 f hne => rfl) (fun k2 f hne h4 => by unfold sSwap; rw [gX2, if_neg (fun q => h4 (by rw [q.1])), gX2, if_neg (fun q => h4 (by rw [q.1]))]) (by unfold sSwap; rw [gX2, if_neg (fun q => by simp at q), gX2, if_neg (fun q => by simp at q)]) (hF.swap a1 (k := k) (by omega))
      refine ⟨by rw [mIs_nI hk (by omega)]; rfl, ?_, ?_⟩
      · unfold oSwap
        rw [if_pos (mIs_nI hk (by omega)), nI_clamp (by omega)]
        unfold sSwap at c1
        rw [e1.1, e2.1] at c1
        exact c1
      · unfold sSwap at f1
        rw [e1.1, e2.1] at f1
        exact f1
    · refine gz_iconst (v := 0) (pc := 14) cx qd_F_overtake_14 (by decide) ?_
      refine gz_ireturn (pc := 15) cx hr (by decide) qd_F_overtake_15 ?_
      have e : mIs (M.2.2.length - 1) x = false := by
        by_cases q : 1 ≤ M.2.2.length
        · have hpred : nI M.2.2.length - 1 = nI (M.2.2.length - 1) := by
            obtain ⟨z, hz⟩ : ∃ z, M.2.2.length = z + 1 := ⟨M.2.2.length - 1, by omega⟩
            rw [hz]; exact nI_pred z
          rw [hpred] at h11
          exact mIs_f2 (Int32.not_lt.mp h11)
        · have e0 : M.2.2.length - 1 = 0 := by omega
          rw [e0]
          exact mIs_f2 (Int32.not_lt.mp h1)
      unfold oSwap
      rw [e]
      exact ⟨rfl, h, gFr.rf⟩
theorem gc_M_tell {G : gG} {la : Launch} {S : gS} {a : Nat} {msg : List Int32} {x : Int32} (ha : a < 121) (hst : gSt G S) (hm : isMsg S a msg) : gM G la qy_M_tell qw_M_tell 1 0 0 (gTt G) (gTt G) [.inr (some (5, a, 0)), .inl x] S (fun v S' => v = some (.inl (mTellM msg x)) ∧ S' = S) := by
  refine gM_of (cc := qc_M_tell) (maxL := 2) (by decide) rfl (Nat.le_of_ble_eq_true rfl) ?_
  intro E cx hr hnm hcz hsz hEl
  subst hEl
  obtain ⟨c, hc8, hml, hm6, hmf, hmn⟩ := hm
  have h6 := (hmf 6 (by decide)).trans hm6
  refine gz_iload_n (pc := 0) cx qd_M_tell_0 rfl rfl ?_
  refine gz_switch (pc := 1) cx 6 (fun i => [44, 49, 54, 59, 64, 69, 74].getD i 0) 79 qd_M_tell_1 (by decide) (by intro i hi; match i, hi with
    | 0, _ => exact ⟨_, rfl, by decide⟩
    | 1, _ => exact ⟨_, rfl, by decide⟩
    | 2, _ => exact ⟨_, rfl, by decide⟩
    | 3, _ => exact ⟨_, rfl, by decide⟩
    | 4, _ => exact ⟨_, rfl, by decide⟩
    | 5, _ => exact ⟨_, rfl, by decide⟩
    | 6, _ => exact ⟨_, rfl, by decide⟩
    | i + 7, hi => exact absurd hi (by omega)) (by decide) (fun i hi hx => ?_) (fun hx => ?_)
  · match i, hi with
    | 0, _ =>
      subst hx
      refine gz_aload_n (pc := 44) cx qd_M_tell_44 rfl rfl ?_
      refine gz_getV (pc := 45) cx qf_M_15 qd_M_tell_45 (gm_M (by assumption)) rfl rfl (hmf 0 (by decide)) ?_
      refine gz_ireturn (pc := 48) cx hr rfl qd_M_tell_48 ?_
      exact ⟨rfl, rfl⟩
    | 1, _ =>
      subst hx
      refine gz_aload_n (pc := 49) cx qd_M_tell_49 rfl rfl ?_
      refine gz_getV (pc := 50) cx qf_M_19 qd_M_tell_50 (gm_M (by assumption)) rfl rfl (hmf 1 (by decide)) ?_
      refine gz_ireturn (pc := 53) cx hr rfl qd_M_tell_53 ?_
      exact ⟨rfl, rfl⟩
    | 2, _ =>
      subst hx
      refine gz_aload_n (pc := 54) cx qd_M_tell_54 rfl rfl ?_
      refine gz_getV (pc := 55) cx qf_M_22 qd_M_tell_55 (gm_M (by assumption)) rfl rfl (hmf 2 (by decide)) ?_
      refine gz_ireturn (pc := 58) cx hr rfl qd_M_tell_58 ?_
      exact ⟨rfl, rfl⟩
    | 3, _ =>
      subst hx
      refine gz_aload_n (pc := 59) cx qd_M_tell_59 rfl rfl ?_
      refine gz_getV (pc := 60) cx qf_M_28 qd_M_tell_60 (gm_M (by assumption)) rfl rfl (hmf 3 (by decide)) ?_
      refine gz_ireturn (pc := 63) cx hr rfl qd_M_tell_63 ?_
      exact ⟨rfl, rfl⟩
    | 4, _ =>
      subst hx
      refine gz_aload_n (pc := 64) cx qd_M_tell_64 rfl rfl ?_
      refine gz_getV (pc := 65) cx qf_M_31 qd_M_tell_65 (gm_M (by assumption)) rfl rfl (hmf 4 (by decide)) ?_
      refine gz_ireturn (pc := 68) cx hr rfl qd_M_tell_68 ?_
      exact ⟨rfl, rfl⟩
    | 5, _ =>
      subst hx
      refine gz_aload_n (pc := 69) cx qd_M_tell_69 rfl rfl ?_
      refine gz_getV (pc := 70) cx qf_M_34 qd_M_tell_70 (gm_M (by assumption)) rfl rfl (hmf 5 (by decide)) ?_
      refine gz_ireturn (pc := 73) cx hr rfl qd_M_tell_73 ?_
      exact ⟨rfl, rfl⟩
    | 6, _ =>
      subst hx
      refine gz_aload_n (pc := 74) cx qd_M_tell_74 rfl rfl ?_
      refine gz_getV (pc := 75) cx qf_M_25 qd_M_tell_75 (gm_M (by assumption)) rfl rfl (hmf 6 (by decide)) ?_
      refine gz_ireturn (pc := 78) cx hr rfl qd_M_tell_78 ?_
      exact ⟨rfl, rfl⟩
    | i + 7, hi => exact absurd hi (by omega)
  · refine gz_aload_n (pc := 79) cx qd_M_tell_79 rfl rfl ?_
    refine gz_iload_n (pc := 80) cx qd_M_tell_80 rfl rfl ?_
    refine gz_callV (pc := 81) cx qv_M_45 qd_M_tell_81 (gc_M_tellNews ha hst h6 hc8) (by decide) rfl (gm_M (by assumption)) rfl rfl rfl rfl (Nat.le_of_ble_eq_true rfl) ⟨Nat.zero_le _, Nat.zero_le _⟩ ?_
    rintro _ S' ⟨rfl, hS'⟩
    subst hS'
    refine gz_ireturn (pc := 84) cx hr rfl qd_M_tell_84 ?_
    refine ⟨?_, rfl⟩
    congr 2
    unfold mTellM
    by_cases q0 : x < 0
    · rw [if_pos q0, if_pos (Or.inl (Int32.lt_trans q0 (by decide)))]
    · rw [if_neg q0]
      obtain ⟨y, hy, rfl⟩ := nI_of q0
      rw [nI_clamp hy]
      have y7 : 7 ≤ y := by
        apply Classical.byContradiction
        intro q
        exact hx y (by omega) rfl
      by_cases q1 : nI (7 + 3 * c) ≤ nI y
      · rw [if_pos (Or.inr q1), List.getD_eq_getElem?_getD, List.getElem?_eq_none]
        · rfl
        · have := (nI_leI (by omega) hy).mp q1
          omega
      · rw [if_neg (fun q => q.elim (fun z => absurd ((nI_ltI hy (by decide : 7 < 2 ^ 31)).mp z) (by omega)) q1)]
        have yl : y < 7 + 3 * c := Classical.byContradiction (fun q => q1 (nI_le (by omega) hy))
        have e : nI y - 7 = nI (y - 7) := pk_sub (b := 7) y7
        rw [e, nI_clamp (by omega), hmn (y - 7) (by omega)]
        congr 1
        omega
