theorem zneg {x : Int32} (h : 0 < x) : ¬ 0 < -x := by
  rw [Int32.lt_iff_toInt_lt] at h ⊢
  rw [Int32.toInt_neg]
  have h1 := x.toInt_lt
  have h0 : (0 : Int32).toInt = 0 := rfl
  rw [h0] at h ⊢
  have : (-x.toInt).bmod (2 ^ 32) = -x.toInt := by
    apply Int.bmod_eq_of_le <;> omega
  omega
theorem mPick_none {n k : Nat} {q : Nat → Int32} (h : mBest q n = none) : mPick n k q = [] := by
  cases k with
  | zero => rfl
  | succ k => rw [mPick, h]
theorem mPick_some {n k b : Nat} {q : Nat → Int32} (h : mBest q n = some b) : mPick n (k + 1) q = b :: mPick n k (fun m => if m = b then 0 else q m) := by rw [mPick, h]
theorem gc_Z_isNode {G : gG} {la : Launch} {S : gS} {x : Int32} (hn : S.1 (20, 0, 0) 0 = nI G.1) : gM G la qy_Z_isNode qw_Z_isNode 0 0 0 (gTt G) (gTt G) [.inr (some (20, 0, 0)), .inl x] S (fun v S' => v = some (.inl (bI (mIs G.1 x))) ∧ S' = S) := by
  refine gM_of (cc := qc_Z_isNode) (maxL := 2) (by decide) rfl (Nat.le_of_ble_eq_true rfl) ?_
  intro E cx hr hnm hcz hsz hEl
  subst hEl
  refine gz_iload_n (pc := 0) cx qd_Z_isNode_0 rfl rfl ?_
  refine gz_if_lt (tgt := 16) (pc := 1) cx qd_Z_isNode_1 (by decide) (fun h1 => ?_) (fun h1 => ?_)
  · refine gz_iconst (v := 0) (pc := 16) cx qd_Z_isNode_16 (by decide) ?_
    refine gz_ireturn (pc := 17) cx hr (by decide) qd_Z_isNode_17 ?_
    rw [mIs_f1 h1]
    exact ⟨rfl, rfl⟩
  · refine gz_iload_n (pc := 4) cx qd_Z_isNode_4 rfl rfl ?_
    refine gz_aload_n (pc := 5) cx qd_Z_isNode_5 rfl rfl ?_
    refine gz_getV (pc := 6) cx qf_Z_86 qd_Z_isNode_6 gm_Z rfl rfl hn ?_
    refine gz_icmp_ge (tgt := 16) (pc := 9) cx qd_Z_isNode_9 (by decide) (fun h9 => ?_) (fun h9 => ?_)
    · refine gz_iconst (v := 0) (pc := 16) cx qd_Z_isNode_16 (by decide) ?_
      refine gz_ireturn (pc := 17) cx hr (by decide) qd_Z_isNode_17 ?_
      rw [mIs_f2 h9]
      exact ⟨rfl, rfl⟩
    · refine gz_iconst (v := 1) (pc := 12) cx qd_Z_isNode_12 (by decide) ?_
      refine gz_goto (tgt := 17) (pc := 13) cx qd_Z_isNode_13 (by decide) ?_
      refine gz_ireturn (pc := 17) cx hr (by decide) qd_Z_isNode_17 ?_
      rw [mIs_t h1 h9]
      exact ⟨rfl, rfl⟩
def qz (S : gS) (i m : Nat) : Int32 := S.1 (31, 0, 0) (8 * i + m)
theorem gc_Z_mostQueued {G : gG} {la : Launch} {S : gS} {i : Nat} (hi : i < G.1) (hst : gSt G S) (h8 : G.1 ≤ 8) (hn : S.1 (20, 0, 0) 0 = nI G.1) : gM G la qy_Z_mostQueued qw_Z_mostQueued 0 0 0 (gTt G) (gTt G) [.inr (some (20, 0, 0)), .inl (nI i)] S (fun v S' => v = some (.inl (mB (mBest (qz S i) G.1))) ∧ S' = S) := by
  refine gM_of (cc := qc_Z_mostQueued) (maxL := 4) (by decide) rfl (Nat.le_of_ble_eq_true rfl) ?_
  intro E cx hr hnm hcz hsz hEl
  subst hEl
  suffices hh : ∀ k, k ≤ G.1 → (fun k => gZ G E 0 0 (gEnd G E 0 0 (gTt G) (fun v S' => v = some (.inl (mB (mBest (qz S i) G.1))) ∧ S' = S)) (gTt G) 4 [some (.inr (some (20, 0, 0))), some (.inl (nI i)), some (.inl (mB (mBest (qz S i) k))), some (.inl (nI k))] [] S) k by
    refine gz_iconst (v := -1) (pc := 0) cx qd_Z_mostQueued_0 (by decide) ?_
    refine gz_istore_n (pc := 1) cx qd_Z_mostQueued_1 rfl (Nat.le_of_ble_eq_true rfl) ?_
    refine gz_iconst (v := 0) (pc := 2) cx qd_Z_mostQueued_2 (by decide) ?_
    refine gz_istore_n (pc := 3) cx qd_Z_mostQueued_3 rfl (Nat.le_of_ble_eq_true rfl) ?_
    exact hh 0 (Nat.zero_le _)
  refine g_upto ?_ ?_
  · refine gz_iload_n (pc := 4) cx qd_Z_mostQueued_4 rfl rfl ?_
    refine gz_aload_n (pc := 5) cx qd_Z_mostQueued_5 rfl rfl ?_
    refine gz_getV (pc := 6) cx qf_Z_86 qd_Z_mostQueued_6 gm_Z rfl rfl hn ?_
    refine gz_icmp_ge (tgt := 67) (pc := 9) cx qd_Z_mostQueued_9 (by decide) (fun _ => ?_) (fun h9 => absurd (Int32.le_refl _) h9)
    refine gz_iload_n (pc := 67) cx qd_Z_mostQueued_67 rfl rfl ?_
    refine gz_ireturn (pc := 68) cx hr rfl qd_Z_mostQueued_68 ?_
    exact ⟨rfl, rfl⟩
  · intro k hk ih
    cases hb : mBest (qz S i) k with
    | none =>
      refine gz_iload_n (pc := 4) cx qd_Z_mostQueued_4 rfl rfl ?_
      refine gz_aload_n (pc := 5) cx qd_Z_mostQueued_5 rfl rfl ?_
      refine gz_getV (pc := 6) cx qf_Z_86 qd_Z_mostQueued_6 gm_Z rfl rfl hn ?_
      refine gz_icmp_ge (tgt := 67) (pc := 9) cx qd_Z_mostQueued_9 (by decide) (fun h9 => absurd h9 (nI_ge hk (by omega))) (fun _ => ?_)
      refine gz_aload_n (pc := 12) cx qd_Z_mostQueued_12 rfl rfl ?_
      refine gz_getR (pc := 13) cx qf_Z_41 qd_Z_mostQueued_13 gm_Z rfl rfl (hst _ _ _ rfl) ?_
      refine gz_bipush (v := 8) (pc := 16) cx qd_Z_mostQueued_16 (by decide) ?_
      refine gz_iload_n (pc := 18) cx qd_Z_mostQueued_18 rfl rfl ?_
      refine gz_imul (pc := 19) cx qd_Z_mostQueued_19 ?_
      refine gz_iload_n (pc := 20) cx qd_Z_mostQueued_20 rfl rfl ?_
      refine gz_iadd (pc := 21) cx qd_Z_mostQueued_21 ?_
      try rw [ix8]
      refine gz_iaload (pc := 22) cx qd_Z_mostQueued_22 (gm_za (by decide) (by decide)) rfl rfl (by omega) (by decide) ?_
      refine gz_if_le (tgt := 59) (pc := 23) cx qd_Z_mostQueued_23 (by decide) (fun h23 => ?_) (fun h23 => ?_)
      · refine gz_iload_n (pc := 59) cx qd_Z_mostQueued_59 rfl rfl ?_
        refine gz_istore_n (pc := 60) cx qd_Z_mostQueued_60 rfl (Nat.le_of_ble_eq_true rfl) ?_
        refine gz_iinc (pc := 61) cx qd_Z_mostQueued_61 rfl (g_inc k) ?_
        refine gz_goto (tgt := 4) (pc := 64) cx qd_Z_mostQueued_64 (by decide) ?_
        refine g_swap ?_ ih
        rw [mBest_step, hb]
        rw [if_neg (show ¬ mV (qz S i) none < qz S i k from Int32.not_lt.mpr h23)]
        rfl
      · refine gz_iload_n (pc := 26) cx qd_Z_mostQueued_26 rfl rfl ?_
        refine gz_if_lt (tgt := 55) (pc := 27) cx qd_Z_mostQueued_27 (by decide) (fun _ => ?_) (fun h27 => absurd (by decide : mB none < 0) h27)
        refine gz_iload_n (pc := 55) cx qd_Z_mostQueued_55 rfl rfl ?_
        refine gz_goto (tgt := 60) (pc := 56) cx qd_Z_mostQueued_56 (by decide) ?_
        refine gz_istore_n (pc := 60) cx qd_Z_mostQueued_60 rfl (Nat.le_of_ble_eq_true rfl) ?_
        refine gz_iinc (pc := 61) cx qd_Z_mostQueued_61 rfl (g_inc k) ?_
        refine gz_goto (tgt := 4) (pc := 64) cx qd_Z_mostQueued_64 (by decide) ?_
        refine g_swap ?_ ih
        rw [mBest_step, hb]
        rw [if_pos (show mV (qz S i) none < qz S i k from Int32.not_le.mp h23)]
        rfl
    | some b =>
      have hbk := (mBest_lt hb)
      refine gz_iload_n (pc := 4) cx qd_Z_mostQueued_4 rfl rfl ?_
      refine gz_aload_n (pc := 5) cx qd_Z_mostQueued_5 rfl rfl ?_
      refine gz_getV (pc := 6) cx qf_Z_86 qd_Z_mostQueued_6 gm_Z rfl rfl hn ?_
      refine gz_icmp_ge (tgt := 67) (pc := 9) cx qd_Z_mostQueued_9 (by decide) (fun h9 => absurd h9 (nI_ge hk (by omega))) (fun _ => ?_)
      refine gz_aload_n (pc := 12) cx qd_Z_mostQueued_12 rfl rfl ?_
      refine gz_getR (pc := 13) cx qf_Z_41 qd_Z_mostQueued_13 gm_Z rfl rfl (hst _ _ _ rfl) ?_
      refine gz_bipush (v := 8) (pc := 16) cx qd_Z_mostQueued_16 (by decide) ?_
      refine gz_iload_n (pc := 18) cx qd_Z_mostQueued_18 rfl rfl ?_
      refine gz_imul (pc := 19) cx qd_Z_mostQueued_19 ?_
      refine gz_iload_n (pc := 20) cx qd_Z_mostQueued_20 rfl rfl ?_
      refine gz_iadd (pc := 21) cx qd_Z_mostQueued_21 ?_
      try rw [ix8]
      refine gz_iaload (pc := 22) cx qd_Z_mostQueued_22 (gm_za (by decide) (by decide)) rfl rfl (by omega) (by decide) ?_
      refine gz_if_le (tgt := 59) (pc := 23) cx qd_Z_mostQueued_23 (by decide) (fun h23 => ?_) (fun h23 => ?_)
      · refine gz_iload_n (pc := 59) cx qd_Z_mostQueued_59 rfl rfl ?_
        refine gz_istore_n (pc := 60) cx qd_Z_mostQueued_60 rfl (Nat.le_of_ble_eq_true rfl) ?_
        refine gz_iinc (pc := 61) cx qd_Z_mostQueued_61 rfl (g_inc k) ?_
        refine gz_goto (tgt := 4) (pc := 64) cx qd_Z_mostQueued_64 (by decide) ?_
        refine g_swap ?_ ih
        rw [mBest_step, hb]
        rw [if_neg (show ¬ mV (qz S i) (some b) < qz S i k from fun z => absurd (Int32.lt_trans hbk.2 z) (Int32.not_lt.mpr h23))]
        rfl
      · refine gz_iload_n (pc := 26) cx qd_Z_mostQueued_26 rfl rfl ?_
        refine gz_if_lt (tgt := 55) (pc := 27) cx qd_Z_mostQueued_27 (by decide) (fun h27 => absurd h27 (nI_pos (n := b) (by omega))) (fun _ => ?_)
        refine gz_aload_n (pc := 30) cx qd_Z_mostQueued_30 rfl rfl ?_
        refine gz_getR (pc := 31) cx qf_Z_41 qd_Z_mostQueued_31 gm_Z rfl rfl (hst _ _ _ rfl) ?_
        refine gz_bipush (v := 8) (pc := 34) cx qd_Z_mostQueued_34 (by decide) ?_
        refine gz_iload_n (pc := 36) cx qd_Z_mostQueued_36 rfl rfl ?_
        refine gz_imul (pc := 37) cx qd_Z_mostQueued_37 ?_
        refine gz_iload_n (pc := 38) cx qd_Z_mostQueued_38 rfl rfl ?_
        refine gz_iadd (pc := 39) cx qd_Z_mostQueued_39 ?_
        try rw [ix8]
        refine gz_iaload (pc := 40) cx qd_Z_mostQueued_40 (gm_za (by decide) (by decide)) rfl rfl (by omega) (by decide) ?_
        refine gz_aload_n (pc := 41) cx qd_Z_mostQueued_41 rfl rfl ?_
        refine gz_getR (pc := 42) cx qf_Z_41 qd_Z_mostQueued_42 gm_Z rfl rfl (hst _ _ _ rfl) ?_
        refine gz_bipush (v := 8) (pc := 45) cx qd_Z_mostQueued_45 (by decide) ?_
        refine gz_iload_n (pc := 47) cx qd_Z_mostQueued_47 rfl rfl ?_
        refine gz_imul (pc := 48) cx qd_Z_mostQueued_48 ?_
        refine gz_iload_n (pc := 49) cx qd_Z_mostQueued_49 rfl rfl ?_
        refine gz_iadd (pc := 50) cx qd_Z_mostQueued_50 ?_
        try rw [ix8]
        refine gz_iaload (pc := 51) cx qd_Z_mostQueued_51 (gm_za (by decide) (by decide)) rfl (ix8 i b) (by omega) (by decide) ?_
        refine gz_icmp_le (tgt := 59) (pc := 52) cx qd_Z_mostQueued_52 (by decide) (fun h52 => ?_) (fun h52 => ?_)
        · refine gz_iload_n (pc := 59) cx qd_Z_mostQueued_59 rfl rfl ?_
          refine gz_istore_n (pc := 60) cx qd_Z_mostQueued_60 rfl (Nat.le_of_ble_eq_true rfl) ?_
          refine gz_iinc (pc := 61) cx qd_Z_mostQueued_61 rfl (g_inc k) ?_
          refine gz_goto (tgt := 4) (pc := 64) cx qd_Z_mostQueued_64 (by decide) ?_
          refine g_swap ?_ ih
          rw [mBest_step, hb]
          rw [if_neg (show ¬ mV (qz S i) (some b) < qz S i k from Int32.not_lt.mpr h52)]
          rfl
        · refine gz_iload_n (pc := 55) cx qd_Z_mostQueued_55 rfl rfl ?_
          refine gz_goto (tgt := 60) (pc := 56) cx qd_Z_mostQueued_56 (by decide) ?_
          refine gz_istore_n (pc := 60) cx qd_Z_mostQueued_60 rfl (Nat.le_of_ble_eq_true rfl) ?_
          refine gz_iinc (pc := 61) cx qd_Z_mostQueued_61 rfl (g_inc k) ?_
          refine gz_goto (tgt := 4) (pc := 64) cx qd_Z_mostQueued_64 (by decide) ?_
          refine g_swap ?_ ih
          rw [mBest_step, hb]
          rw [if_pos (show mV (qz S i) (some b) < qz S i k from Int32.not_le.mp h52)]
          rfl
theorem gc_Z_addNews {G : gG} {la : Launch} {S : gS} {c : Nat} {m s i : Int32} (hst : gSt G S) (hc : S.1 (22, 0, 0) 6 = nI c) (hc8 : c < 8) : gM G la qy_Z_addNews qw_Z_addNews 0 0 0 (gTt G) (gTt G) [.inr (some (20, 0, 0)), .inl m, .inl s, .inl i] S (fun v S' => v = none ∧ S' = zNews S c m s i) := by
  refine gM_of (cc := qc_Z_addNews) (maxL := 5) (by decide) rfl (Nat.le_of_ble_eq_true rfl) ?_
  intro E cx hr hnm hcz hsz hEl
  subst hEl
  have e7 : (7 : Int32) + 3 * S.1 (22, 0, 0) 6 = nI (7 + 3 * c) := by rw [hc]; exact (congrArg (fun z => (7 : Int32) + z) (pk_mul 3 c)).trans (nI_add 7 (3 * c))
  refine gz_bipush (v := 7) (pc := 0) cx qd_Z_addNews_0 (by decide) ?_
  refine gz_iconst (v := 3) (pc := 2) cx qd_Z_addNews_2 (by decide) ?_
  refine gz_aload_n (pc := 3) cx qd_Z_addNews_3 rfl rfl ?_
  refine gz_getR (pc := 4) cx qf_Z_13 qd_Z_addNews_4 gm_Z rfl rfl (hst _ _ _ rfl) ?_
  refine gz_bipush (v := 6) (pc := 7) cx qd_Z_addNews_7 (by decide) ?_
  refine gz_iaload (pc := 9) cx qd_Z_addNews_9 (gm_za (by decide) (by decide)) rfl (g_lit 6) (by omega) (by decide) ?_
  refine gz_imul (pc := 10) cx qd_Z_addNews_10 ?_
  refine gz_iadd (pc := 11) cx qd_Z_addNews_11 ?_
  rw [e7]
  refine gz_istore (pc := 12) cx qd_Z_addNews_12 (Nat.le_of_ble_eq_true rfl) ?_
  refine gz_aload_n (pc := 14) cx qd_Z_addNews_14 rfl rfl ?_
  refine gz_getR (pc := 15) cx qf_Z_13 qd_Z_addNews_15 gm_Z rfl rfl (hst _ _ _ rfl) ?_
  refine gz_iload (pc := 18) cx qd_Z_addNews_18 rfl ?_
  refine gz_iload_n (pc := 20) cx qd_Z_addNews_20 rfl rfl ?_
  refine gz_iastore (pc := 21) cx qd_Z_addNews_21 (gm_za (by decide) (by decide)) rfl rfl (by omega) (by decide) ?_
  refine gz_aload_n (pc := 22) cx qd_Z_addNews_22 rfl rfl ?_
  refine gz_getR (pc := 23) cx qf_Z_13 qd_Z_addNews_23 gm_Z rfl rfl (hst _ _ _ rfl) ?_
  refine gz_iload (pc := 26) cx qd_Z_addNews_26 rfl ?_
  refine gz_iconst (v := 1) (pc := 28) cx qd_Z_addNews_28 (by decide) ?_
  refine gz_iadd (pc := 29) cx qd_Z_addNews_29 ?_
  refine gz_iload_n (pc := 30) cx qd_Z_addNews_30 rfl rfl ?_
  refine gz_iastore (pc := 31) cx qd_Z_addNews_31 (gm_za (by decide) (by decide)) rfl (nI_succ _).symm (by omega) (by decide) ?_
  refine gz_aload_n (pc := 32) cx qd_Z_addNews_32 rfl rfl ?_
  refine gz_getR (pc := 33) cx qf_Z_13 qd_Z_addNews_33 gm_Z rfl rfl (hst _ _ _ rfl) ?_
  refine gz_iload (pc := 36) cx qd_Z_addNews_36 rfl ?_
  refine gz_iconst (v := 2) (pc := 38) cx qd_Z_addNews_38 (by decide) ?_
  refine gz_iadd (pc := 39) cx qd_Z_addNews_39 ?_
  refine gz_iload_n (pc := 40) cx qd_Z_addNews_40 rfl rfl ?_
  refine gz_iastore (pc := 41) cx qd_Z_addNews_41 (gm_za (by decide) (by decide)) rfl (nI_add (7 + 3 * c) 2) (by omega) (by decide) ?_
  refine gz_aload_n (pc := 42) cx qd_Z_addNews_42 rfl rfl ?_
  refine gz_getR (pc := 43) cx qf_Z_13 qd_Z_addNews_43 gm_Z rfl rfl (hst _ _ _ rfl) ?_
  refine gz_bipush (v := 6) (pc := 46) cx qd_Z_addNews_46 (by decide) ?_
  refine gz_dup2 (pc := 48) cx qd_Z_addNews_48 ?_
  refine gz_iaload (pc := 49) cx qd_Z_addNews_49 (gm_za (by decide) (by decide)) rfl (g_lit 6) (by omega) (by decide) ?_
  refine gz_iconst (v := 1) (pc := 50) cx qd_Z_addNews_50 (by decide) ?_
  refine gz_iadd (pc := 51) cx qd_Z_addNews_51 ?_
  refine gz_iastore (pc := 52) cx qd_Z_addNews_52 (gm_za (by decide) (by decide)) rfl (g_lit 6) (by omega) (by decide) ?_
  refine gz_return (pc := 53) cx hr qd_Z_addNews_53 ?_
  refine ⟨rfl, ?_⟩
  unfold zNews
  congr 1
  rw [gI1, if_neg (by omega), gI1, if_neg (by omega), gI1, if_neg (by omega), hc, nI_succ]
theorem gc_Z_addQueued {G : gG} {la : Launch} {S : gS} {i : Nat} (hi : i < G.1) (hst : gSt G S) (h8 : G.1 ≤ 8) (hn : S.1 (20, 0, 0) 0 = nI G.1) (hc : S.1 (22, 0, 0) 6 = 0) (hpos : ∀ m, m < G.1 → 0 ≤ qz S i m) : gM G la qy_Z_addQueued qw_Z_addQueued 1 0 0 (gTt G) (gTt G) [.inr (some (20, 0, 0)), .inl (nI i)] S (fun v S' => v = none ∧ S' = zFix (zQ i (mPick G.1 3 (qz S i)) 0 S) i G.1) := by
  refine gM_of (cc := qc_Z_addQueued) (maxL := 4) (by decide) rfl (Nat.le_of_ble_eq_true rfl) ?_
  intro E cx hr hnm hcz hsz hEl
  subst hEl
  have tail : gZ G E 0 0 (gEnd G E 0 0 (gTt G) (fun v S' => v = none ∧ S' = zFix (zQ i (mPick G.1 3 (qz S i)) 0 S) i G.1)) (gTt G) 73 [some (.inr (some (20, 0, 0))), some (.inl (nI i)), none, none] [] (zQ i (mPick G.1 3 (qz S i)) 0 S) := by
    have hst2 : gSt G (zQ i (mPick G.1 3 (qz S i)) 0 S) := hst.of (fun _ _ _ _ => by rw [zQ_2])
    have hn2 : (zQ i (mPick G.1 3 (qz S i)) 0 S).1 (20, 0, 0) 0 = nI G.1 := (zQ_off (by simp) (by simp)).trans hn
    generalize zQ i (mPick G.1 3 (qz S i)) 0 S = S1 at hst2 hn2 ⊢
    suffices hh : ∀ k, k ≤ G.1 → (fun k => gZ G E 0 0 (gEnd G E 0 0 (gTt G) (fun v S' => v = none ∧ S' = zFix S1 i G.1)) (gTt G) 75 [some (.inr (some (20, 0, 0))), some (.inl (nI i)), some (.inl (nI k)), none] [] (zFix S1 i k)) k by
      refine gz_iconst (v := 0) (pc := 73) cx qd_Z_addQueued_73 (by decide) ?_
      refine gz_istore_n (pc := 74) cx qd_Z_addQueued_74 rfl (Nat.le_of_ble_eq_true rfl) ?_
      have h0 := hh 0 (Nat.zero_le _)
      dsimp only at h0
      rw [zFix_0] at h0
      exact h0
    refine g_upto ?_ ?_
    · refine gz_iload_n (pc := 75) cx qd_Z_addQueued_75 rfl rfl ?_
      refine gz_aload_n (pc := 76) cx qd_Z_addQueued_76 rfl rfl ?_
      refine gz_getV (pc := 77) cx qf_Z_86 qd_Z_addQueued_77 gm_Z rfl rfl ((zFix_o (by simp)).trans hn2) ?_
      refine gz_icmp_ge (tgt := 142) (pc := 80) cx qd_Z_addQueued_80 (by decide) (fun _ => ?_) (fun h80 => absurd (Int32.le_refl _) h80)
      refine gz_return (pc := 142) cx hr qd_Z_addQueued_142 ?_
      exact ⟨rfl, rfl⟩
    · intro k hk ih
      have e31 : (zFix S1 i k).1 (31, 0, 0) (8 * i + k) = S1.1 (31, 0, 0) (8 * i + k) := if_neg (fun q => by obtain ⟨m, hm, z⟩ := q.2.1; omega)
      refine gz_iload_n (pc := 75) cx qd_Z_addQueued_75 rfl rfl ?_
      refine gz_aload_n (pc := 76) cx qd_Z_addQueued_76 rfl rfl ?_
      refine gz_getV (pc := 77) cx qf_Z_86 qd_Z_addQueued_77 gm_Z rfl rfl ((zFix_o (by simp)).trans hn2) ?_
      refine gz_icmp_ge (tgt := 142) (pc := 80) cx qd_Z_addQueued_80 (by decide) (fun h80 => absurd h80 (nI_ge hk (by omega))) (fun _ => ?_)
      refine gz_aload_n (pc := 83) cx qd_Z_addQueued_83 rfl rfl ?_
      refine gz_getR (pc := 84) cx qf_Z_41 qd_Z_addQueued_84 gm_Z rfl rfl (show (zFix S1 i k).2 (20, 0, 0) _ = _ from hst2 _ _ _ rfl) ?_
      refine gz_bipush (v := 8) (pc := 87) cx qd_Z_addQueued_87 (by decide) ?_
      refine gz_iload_n (pc := 89) cx qd_Z_addQueued_89 rfl rfl ?_
      refine gz_imul (pc := 90) cx qd_Z_addQueued_90 ?_
      refine gz_iload_n (pc := 91) cx qd_Z_addQueued_91 rfl rfl ?_
      refine gz_iadd (pc := 92) cx qd_Z_addQueued_92 ?_
      try rw [ix8]
      refine gz_aload_n (pc := 93) cx qd_Z_addQueued_93 rfl rfl ?_
      refine gz_getR (pc := 94) cx qf_Z_41 qd_Z_addQueued_94 gm_Z rfl rfl (show (zFix S1 i k).2 (20, 0, 0) _ = _ from hst2 _ _ _ rfl) ?_
      refine gz_bipush (v := 8) (pc := 97) cx qd_Z_addQueued_97 (by decide) ?_
      refine gz_iload_n (pc := 99) cx qd_Z_addQueued_99 rfl rfl ?_
      refine gz_imul (pc := 100) cx qd_Z_addQueued_100 ?_
      refine gz_iload_n (pc := 101) cx qd_Z_addQueued_101 rfl rfl ?_
      refine gz_iadd (pc := 102) cx qd_Z_addQueued_102 ?_
      try rw [ix8]
      refine gz_iaload (pc := 103) cx qd_Z_addQueued_103 (gm_za (by decide) (by decide)) rfl rfl (by omega) (by decide) ?_
      refine gz_if_ge (tgt := 124) (pc := 104) cx qd_Z_addQueued_104 (by decide) (fun h104 => ?_) (fun h104 => ?_)
      · refine gz_aload_n (pc := 124) cx qd_Z_addQueued_124 rfl rfl ?_
        refine gz_getR (pc := 125) cx qf_Z_41 qd_Z_addQueued_125 gm_Z rfl rfl (show (zFix S1 i k).2 (20, 0, 0) _ = _ from hst2 _ _ _ rfl) ?_
        refine gz_bipush (v := 8) (pc := 128) cx qd_Z_addQueued_128 (by decide) ?_
        refine gz_iload_n (pc := 130) cx qd_Z_addQueued_130 rfl rfl ?_
        refine gz_imul (pc := 131) cx qd_Z_addQueued_131 ?_
        refine gz_iload_n (pc := 132) cx qd_Z_addQueued_132 rfl rfl ?_
        refine gz_iadd (pc := 133) cx qd_Z_addQueued_133 ?_
        try rw [ix8]
        refine gz_iaload (pc := 134) cx qd_Z_addQueued_134 (gm_za (by decide) (by decide)) rfl rfl (by omega) (by decide) ?_
        refine gz_iastore (pc := 135) cx qd_Z_addQueued_135 (gm_za (by decide) (by decide)) rfl rfl (by omega) (by decide) ?_
        refine gz_iinc (pc := 136) cx qd_Z_addQueued_136 rfl (g_inc k) ?_
        refine gz_goto (tgt := 75) (pc := 139) cx qd_Z_addQueued_139 (by decide) ?_
        rw [e31] at *
        rw [zFix_s (by rw [if_neg (Int32.not_lt.mpr h104)])]
        exact ih
      · refine gz_aload_n (pc := 107) cx qd_Z_addQueued_107 rfl rfl ?_
        refine gz_getR (pc := 108) cx qf_Z_41 qd_Z_addQueued_108 gm_Z rfl rfl (show (zFix S1 i k).2 (20, 0, 0) _ = _ from hst2 _ _ _ rfl) ?_
        refine gz_bipush (v := 8) (pc := 111) cx qd_Z_addQueued_111 (by decide) ?_
        refine gz_iload_n (pc := 113) cx qd_Z_addQueued_113 rfl rfl ?_
        refine gz_imul (pc := 114) cx qd_Z_addQueued_114 ?_
        refine gz_iload_n (pc := 115) cx qd_Z_addQueued_115 rfl rfl ?_
        refine gz_iadd (pc := 116) cx qd_Z_addQueued_116 ?_
        try rw [ix8]
        refine gz_iaload (pc := 117) cx qd_Z_addQueued_117 (gm_za (by decide) (by decide)) rfl rfl (by omega) (by decide) ?_
        refine gz_ineg (pc := 118) cx qd_Z_addQueued_118 ?_
        refine gz_iconst (v := 1) (pc := 119) cx qd_Z_addQueued_119 (by decide) ?_
        refine gz_isub (pc := 120) cx qd_Z_addQueued_120 ?_
        refine gz_goto (tgt := 135) (pc := 121) cx qd_Z_addQueued_121 (by decide) ?_
        refine gz_iastore (pc := 135) cx qd_Z_addQueued_135 (gm_za (by decide) (by decide)) rfl rfl (by omega) (by decide) ?_
        refine gz_iinc (pc := 136) cx qd_Z_addQueued_136 rfl (g_inc k) ?_
        refine gz_goto (tgt := 75) (pc := 139) cx qd_Z_addQueued_139 (by decide) ?_
        rw [e31] at *
        rw [zFix_s (by rw [if_pos (Int32.not_le.mp h104)])]
        exact ih
  suffices hh : ∀ rem r, r + rem = 3 → ∀ l : List Nat, l.length ≤ r → (∀ m ∈ l, m < G.1 ∧ 0 < qz S i m) → l.Nodup → (l.length < r → mBest (qz (zQ i l 0 S) i) G.1 = none) → mPick G.1 3 (qz S i) = l ++ mPick G.1 rem (fun m => if m ∈ l then 0 else qz S i m) → gZ G E 0 0 (gEnd G E 0 0 (gTt G) (fun v S' => v = none ∧ S' = zFix (zQ i (mPick G.1 3 (qz S i)) 0 S) i G.1)) (gTt G) 2 [some (.inr (some (20, 0, 0))), some (.inl (nI i)), some (.inl (nI r)), none] [] (zQ i l 0 S) by
    refine gz_iconst (v := 0) (pc := 0) cx qd_Z_addQueued_0 (by decide) ?_
    refine gz_istore_n (pc := 1) cx qd_Z_addQueued_1 rfl (Nat.le_of_ble_eq_true rfl) ?_
    exact hh 3 0 rfl [] (Nat.le_refl _) (fun m q => absurd q (by simp)) List.nodup_nil (fun q => absurd q (by simp)) (by simp)
  have hbq : ∀ l : List Nat, (∀ m ∈ l, m < G.1 ∧ 0 < qz S i m) → l.Nodup → mBest (qz (zQ i l 0 S) i) G.1 = mBest (fun m => if m ∈ l then 0 else qz S i m) G.1 := by
    intro l hl hnd
    apply mBest_np
    intro m hm
    unfold qz
    rw [zQ_31 hnd]
    by_cases e : m ∈ l
    · right
      rw [if_pos ⟨m, e, rfl⟩]
      rw [if_pos e]
      exact ⟨zneg (hl m e).2, Int32.lt_irrefl⟩
    · left
      rw [if_neg e, if_neg (fun ⟨m', hm', q⟩ => e (by have em : m = m' := by omega
                                                      rw [em]; exact hm'))]
  intro rem
  induction rem with
  | zero =>
    intro r hr3 l hl hlt hnd hno he
    obtain rfl : r = 3 := by omega
    have hel : mPick G.1 3 (qz S i) = l := by rw [he, mPick, List.append_nil]
    rw [hel] at tail
    rw [hel]
    refine gz_iload_n (pc := 2) cx qd_Z_addQueued_2 rfl rfl ?_
    refine gz_iconst (v := 3) (pc := 3) cx qd_Z_addQueued_3 (by decide) ?_
    refine gz_icmp_ge (tgt := 73) (pc := 4) cx qd_Z_addQueued_4 (by decide) (fun _ => ?_) (fun h4 => absurd (Int32.le_refl _ : (3 : Int32) ≤ nI 3) h4)
    exact gz_weak (lv' := [some (.inr (some (20, 0, 0))), some (.inl (nI i)), none, none]) ⟨rfl, rfl, trivial⟩ tail
  | succ rem ih =>
    intro r hr3 l hl hlt hnd hno he
    have hst2 : gSt G (zQ i l 0 S) := hst.of (fun _ _ _ _ => by rw [zQ_2])
    have hn2 : (zQ i l 0 S).1 (20, 0, 0) 0 = nI G.1 := (zQ_off (by simp) (by simp)).trans hn
    have hcc : (zQ i l 0 S).1 (22, 0, 0) 6 = nI (0 + l.length) := (zQ_22 (i := i) (l := l) (c := 0) hc).2.1
    refine gz_iload_n (pc := 2) cx qd_Z_addQueued_2 rfl rfl ?_
    refine gz_iconst (v := 3) (pc := 3) cx qd_Z_addQueued_3 (by decide) ?_
    refine gz_icmp_ge (tgt := 73) (pc := 4) cx qd_Z_addQueued_4 (by decide) (fun h4 => absurd h4 (nI_ge (b := 3) (by omega) (by decide))) (fun _ => ?_)
    refine gz_aload_n (pc := 7) cx qd_Z_addQueued_7 rfl rfl ?_
    refine gz_iload_n (pc := 8) cx qd_Z_addQueued_8 rfl rfl ?_
    refine gz_callV (pc := 9) cx qv_Z_94 qd_Z_addQueued_9 (gc_Z_mostQueued hi hst2 h8 hn2) (by decide) rfl gm_Z rfl rfl rfl rfl (Nat.le_of_ble_eq_true rfl) ⟨Nat.zero_le _, Nat.zero_le _⟩ ?_
    rintro _ S' ⟨rfl, hS'⟩
    subst hS'
    cases hb : mBest (qz (zQ i l 0 S) i) G.1 with
    | none =>
      refine gz_istore_n (pc := 12) cx qd_Z_addQueued_12 rfl (Nat.le_of_ble_eq_true rfl) ?_
      refine gz_iload_n (pc := 13) cx qd_Z_addQueued_13 rfl rfl ?_
      refine gz_if_lt (tgt := 67) (pc := 14) cx qd_Z_addQueued_14 (by decide) (fun _ => ?_) (fun h14 => absurd (by decide : mB none < 0) h14)
      refine gz_iinc (pc := 67) cx qd_Z_addQueued_67 rfl (g_inc r) ?_
      refine gz_goto (tgt := 2) (pc := 70) cx qd_Z_addQueued_70 (by decide) ?_
      refine gz_weak (lv' := [some (.inr (some (20, 0, 0))), some (.inl (nI i)), some (.inl (nI (r + 1))), none]) ⟨rfl, rfl, rfl, trivial⟩ ?_
      refine ih (r + 1) (by omega) l (by omega) hlt hnd (fun _ => hb) ?_
      have e0 : mBest (fun m => if m ∈ l then 0 else qz S i m) G.1 = none := (hbq l hlt hnd).symm.trans hb
      rw [he, mPick_none e0, mPick_none e0]
    | some b =>
      have hb2 := (hbq l hlt hnd).symm.trans hb
      have hbl := mBest_lt hb2
      have hbn : b ∉ l := fun q => by
        have := hbl.2
        rw [if_pos q] at this
        exact absurd this Int32.lt_irrefl
      have hlr : l.length = r := by
        apply Classical.byContradiction
        intro q
        have := hno (by omega)
        rw [hb] at this
        cases this
      have hb0 : 0 < qz S i b := by
        have := hbl.2
        rw [if_neg hbn] at this
        exact this
      refine gz_istore_n (pc := 12) cx qd_Z_addQueued_12 rfl (Nat.le_of_ble_eq_true rfl) ?_
      refine gz_iload_n (pc := 13) cx qd_Z_addQueued_13 rfl rfl ?_
      refine gz_if_lt (tgt := 67) (pc := 14) cx qd_Z_addQueued_14 (by decide) (fun h14 => absurd h14 (nI_pos (n := b) (by omega))) (fun _ => ?_)
      refine gz_aload_n (pc := 17) cx qd_Z_addQueued_17 rfl rfl ?_
      refine gz_iload_n (pc := 18) cx qd_Z_addQueued_18 rfl rfl ?_
      refine gz_aload_n (pc := 19) cx qd_Z_addQueued_19 rfl rfl ?_
      refine gz_getR (pc := 20) cx qf_Z_44 qd_Z_addQueued_20 gm_Z rfl rfl (hst2 _ _ _ rfl) ?_
      refine gz_bipush (v := 8) (pc := 23) cx qd_Z_addQueued_23 (by decide) ?_
      refine gz_iload_n (pc := 25) cx qd_Z_addQueued_25 rfl rfl ?_
      refine gz_imul (pc := 26) cx qd_Z_addQueued_26 ?_
      refine gz_iload_n (pc := 27) cx qd_Z_addQueued_27 rfl rfl ?_
      refine gz_iadd (pc := 28) cx qd_Z_addQueued_28 ?_
      try rw [ix8]
      refine gz_iaload (pc := 29) cx qd_Z_addQueued_29 (gm_za (by decide) (by decide)) rfl (ix8 i b) (by omega) (by decide) ?_
      refine gz_aload_n (pc := 30) cx qd_Z_addQueued_30 rfl rfl ?_
      refine gz_getR (pc := 31) cx qf_Z_47 qd_Z_addQueued_31 gm_Z rfl rfl (hst2 _ _ _ rfl) ?_
      refine gz_bipush (v := 8) (pc := 34) cx qd_Z_addQueued_34 (by decide) ?_
      refine gz_iload_n (pc := 36) cx qd_Z_addQueued_36 rfl rfl ?_
      refine gz_imul (pc := 37) cx qd_Z_addQueued_37 ?_
      refine gz_iload_n (pc := 38) cx qd_Z_addQueued_38 rfl rfl ?_
      refine gz_iadd (pc := 39) cx qd_Z_addQueued_39 ?_
      try rw [ix8]
      refine gz_iaload (pc := 40) cx qd_Z_addQueued_40 (gm_za (by decide) (by decide)) rfl (ix8 i b) (by omega) (by decide) ?_
      refine gz_callV (pc := 41) cx qv_Z_98 qd_Z_addQueued_41 (gc_Z_addNews (c := 0 + l.length) hst2 hcc (by omega)) (by decide) rfl gm_Z rfl rfl rfl rfl (Nat.le_of_ble_eq_true rfl) ⟨Nat.zero_le _, Nat.zero_le _⟩ ?_
      rintro _ _ ⟨rfl, rfl⟩
      refine gz_aload_n (pc := 44) cx qd_Z_addQueued_44 rfl rfl ?_
      refine gz_getR (pc := 45) cx qf_Z_41 qd_Z_addQueued_45 gm_Z rfl rfl (show (zNews _ _ _ _ _).2 _ _ = _ from hst2 _ _ _ rfl) ?_
      refine gz_bipush (v := 8) (pc := 48) cx qd_Z_addQueued_48 (by decide) ?_
      refine gz_iload_n (pc := 50) cx qd_Z_addQueued_50 rfl rfl ?_
      refine gz_imul (pc := 51) cx qd_Z_addQueued_51 ?_
      refine gz_iload_n (pc := 52) cx qd_Z_addQueued_52 rfl rfl ?_
      refine gz_iadd (pc := 53) cx qd_Z_addQueued_53 ?_
      try rw [ix8]
      refine gz_aload_n (pc := 54) cx qd_Z_addQueued_54 rfl rfl ?_
      refine gz_getR (pc := 55) cx qf_Z_41 qd_Z_addQueued_55 gm_Z rfl rfl (show (zNews _ _ _ _ _).2 _ _ = _ from hst2 _ _ _ rfl) ?_
      refine gz_bipush (v := 8) (pc := 58) cx qd_Z_addQueued_58 (by decide) ?_
      refine gz_iload_n (pc := 60) cx qd_Z_addQueued_60 rfl rfl ?_
      refine gz_imul (pc := 61) cx qd_Z_addQueued_61 ?_
      refine gz_iload_n (pc := 62) cx qd_Z_addQueued_62 rfl rfl ?_
      refine gz_iadd (pc := 63) cx qd_Z_addQueued_63 ?_
      try rw [ix8]
      refine gz_iaload (pc := 64) cx qd_Z_addQueued_64 (gm_za (by decide) (by decide)) rfl (ix8 i b) (by omega) (by decide) ?_
      refine gz_ineg (pc := 65) cx qd_Z_addQueued_65 ?_
      refine gz_iastore (pc := 66) cx qd_Z_addQueued_66 (gm_za (by decide) (by decide)) rfl (ix8 i b) (by omega) (by decide) ?_
      refine gz_iinc (pc := 67) cx qd_Z_addQueued_67 rfl (g_inc r) ?_
      refine gz_goto (tgt := 2) (pc := 70) cx qd_Z_addQueued_70 (by decide) ?_
      refine gz_weak (lv' := [some (.inr (some (20, 0, 0))), some (.inl (nI i)), some (.inl (nI (r + 1))), none]) ⟨rfl, rfl, rfl, trivial⟩ ?_
      have ep : gI (zNews (zQ i l 0 S) (0 + l.length) (nI b) ((zQ i l 0 S).1 (32, 0, 0) (8 * i + b)) ((zQ i l 0 S).1 (33, 0, 0) (8 * i + b))) (31, 0, 0) (8 * i + b) (-((zNews (zQ i l 0 S) (0 + l.length) (nI b) ((zQ i l 0 S).1 (32, 0, 0) (8 * i + b)) ((zQ i l 0 S).1 (33, 0, 0) (8 * i + b))).1 (31, 0, 0) (8 * i + b))) = zQ i (l ++ [b]) 0 S := by
        rw [zQ_app]
        rfl
      refine g_swap (congrArg (gZ _ _ _ _ _ _ _ _ _) ep.symm) ?_
      refine ih (r + 1) (by omega) (l ++ [b]) (by simp; omega) (fun m hm => ?_) ?_ (fun q => absurd q (by simp; omega)) ?_
      · rcases List.mem_append.mp hm with q | q
        · exact hlt m q
        · rw [List.mem_singleton.mp q]; exact ⟨hbl.1, hb0⟩
      · rw [List.nodup_append]
        exact ⟨hnd, by simp, fun x hx y hy => by rw [List.mem_singleton.mp hy]; exact fun q => hbn (q ▸ hx)⟩
      · rw [he, mPick_some hb2]
        simp only [List.append_assoc, List.singleton_append]
        congr 3
        funext m
        by_cases e1 : m = b
        · simp [e1]
        · simp [e1]
