/-! the reference's timer, its first half -/
def zAg (r : List (List Int32)) (k : Nat) : List (List Int32) := (r.take k).map mInc ++ r.drop k
theorem zAg_0 {r : List (List Int32)} : zAg r 0 = r := rfl
theorem zAg_e {r : List (List Int32)} : zAg r r.length = r.map mInc := by
  unfold zAg
  rw [List.take_length, List.drop_length, List.append_nil]
theorem zAg_len {r : List (List Int32)} {k : Nat} (h : k ≤ r.length) : (zAg r k).length = r.length := by
  unfold zAg
  rw [List.length_append, List.length_map, List.length_take, List.length_drop]; omega
theorem zAg_s {r : List (List Int32)} {k : Nat} (h : k < r.length) : mAged (zAg r k) k = zAg r (k + 1) := by
  have e : r.drop k = r[k] :: r.drop (k + 1) := List.drop_eq_getElem_cons h
  have el : ((r.take k).map mInc).length = k := by rw [List.length_map, List.length_take]; omega
  have e0 : zAg r k = (r.take k).map mInc ++ (r[k] :: r.drop (k + 1)) := by unfold zAg; rw [e]
  have e1 : (zAg r k).getD k [] = r[k] := by
    rw [e0, List.getD_eq_getElem?_getD, List.getElem?_append_right (by omega), el, Nat.sub_self]; rfl
  unfold mAged
  rw [e1, e0, List.set_append_right _ _ (by omega), el, Nat.sub_self]
  unfold zAg
  rw [List.take_succ_eq_append_getElem h, List.map_append, List.append_assoc]
  rfl
theorem DR.aged {G : gG} {M : mM} {ow : Nat → Bool} {S : gS} (h : DR G M ow S) {i k : Nat} (hi : i < G.1) (hr : mRn M i) (hk : k < (M.2.1 i).length) : DR G (mRl M i (mAged (M.2.1 i) k)) ow (gI S (35, 0, 0) (16 * i + 4 * k + 3) (((M.2.1 i).getD k []).getD 3 0 + 1)) ∧ gFc S (gI S (35, 0, 0) (16 * i + 4 * k + 3) (((M.2.1 i).getD k []).getD 3 0 + 1)) := by
  obtain ⟨d0, d1, d2, d3, d4, d5, d6, d7, d8, d9, d10, d11, d12, d13, d14, d15, d16, d17, d18, d19, d20, d21, d22, d23, d24, d25, d26⟩ := h
  have e : DLr G (gI S (35, 0, 0) (16 * i + 4 * k + 3) (((M.2.1 i).getD k []).getD 3 0 + 1)) (mRl M i (mAged (M.2.1 i) k)) := by
    intro i' hi' hr'
    have hk4 := (d19 i hi hr).2.1
    obtain ⟨c1, c2, c3⟩ := d19 i' hi' hr'
    by_cases q : i' = i
    · subst q
      have le : (mAged (M.2.1 i') k).length = (M.2.1 i').length := List.length_set
      rw [mRl_at, le]
      refine ⟨c1, c2, fun k' hk' f hf => ?_⟩
      rw [gI1]
      by_cases z : k' = k
      · subst z
        have e1 : (mAged (M.2.1 i') k').getD k' [] = mInc ((M.2.1 i').getD k' []) := by
          unfold mAged
          rw [List.getD_eq_getElem?_getD, List.getElem?_set_self hk]; rfl
        rw [e1]
        match f, hf with
        | 0, _ => rw [if_neg (by omega)]; exact c3 k' hk' 0 (by decide)
        | 1, _ => rw [if_neg (by omega)]; exact c3 k' hk' 1 (by decide)
        | 2, _ => rw [if_neg (by omega)]; exact c3 k' hk' 2 (by decide)
        | 3, _ => rw [if_pos ⟨rfl, rfl⟩]; rfl
        | f + 4, hf => exact absurd hf (by omega)
      · have e1 : (mAged (M.2.1 i') k).getD k' [] = (M.2.1 i').getD k' [] := by
          unfold mAged
          rw [List.getD_eq_getElem?_getD, List.getElem?_set_ne (by omega), ← List.getD_eq_getElem?_getD]
        rw [if_neg (by omega), e1]
        exact c3 k' hk' f hf
    · have er : (mRl M i (mAged (M.2.1 i) k)).2.1 i' = M.2.1 i' := if_neg q
      rw [er]
      refine ⟨c1, c2, fun k' hk' f hf => ?_⟩
      rw [gI1, if_neg (by omega)]
      exact c3 k' hk' f hf
  exact ⟨⟨d0, d1, d2, d3, d4, d5, d6, d7, d8, d9, d10, d11, d12, d13, d14, d15, d16, d17, d18, e, d20, d21, d22, d23, d24, d25, d26⟩, gFc.I (by simp)⟩
theorem gc_Z_ageRelays {G : gG} {la : Launch} {M : mM} {D : Nat} {ow : Nat → Bool} {S : gS} {i : Nat} (hi : i < G.1) (h : DR G M ow S) (hrun : mRn M i) (hO : mInv G.1 D ow M) : gM G la qy_Z_ageRelays qw_Z_ageRelays 3 0 0 (gTt G) (gTt G) [.inr (some (20, 0, 0)), .inl (nI i)] S (fun v S' => v = none ∧ DR G (mAge G.1 M i) ow S' ∧ gFc S S') := by
  refine gM_of (cc := qc_Z_ageRelays) (maxL := 5) (by decide) rfl (Nat.le_of_ble_eq_true rfl) ?_
  intro E cx hr hnm hcz hsz hEl
  subst hEl
  have h8 := h.2.1.1
  obtain ⟨v1, v2, v3, v4, v5⟩ := hO.2.2.2.2 i hi hrun
  rw [mAge_pop v4]
  have pop : ∀ f M' S', (M'.2.1 i).length = f → mVr3 G.1 (M'.2.1 i) → mRn M' i → mVt G.1 M' i → DR G M' ow S' → gFc S S' → gZ G E 0 0 (gEnd G E 0 0 (gTt G) (fun v S' => v = none ∧ DR G (mPop G.1 i f M') ow S' ∧ gFc S S')) (gTt G) 37 [some (.inr (some (20, 0, 0))), some (.inl (nI i)), none, none, none] [] S' := by
    intro f
    induction f with
    | zero =>
      intro M' S' hl h3 hrr hV hD hF
      obtain ⟨r1, r2, r3⟩ := hD.2.2.2.2.2.2.2.2.2.2.2.2.2.2.2.2.2.2.2.1 i hi hrr
      rw [hl] at r1
      have hst := hD.1
      refine gz_aload_n (pc := 37) cx qd_Z_ageRelays_37 rfl rfl ?_
      refine gz_getR (pc := 38) cx qf_Z_50 qd_Z_ageRelays_38 gm_Z rfl rfl (hst _ _ _ rfl) ?_
      refine gz_iload_n (pc := 41) cx qd_Z_ageRelays_41 rfl rfl ?_
      refine gz_ialoadV (pc := 42) cx qd_Z_ageRelays_42 (gm_za (by decide) (by decide)) rfl r1 rfl (by omega) (by decide) ?_
      refine gz_if_le (tgt := 116) (pc := 43) cx qd_Z_ageRelays_43 (by decide) (fun _ => ?_) (fun h43 => absurd (by decide : nI 0 ≤ 0) h43)
      refine gz_return (pc := 116) cx hr qd_Z_ageRelays_116 ?_
      exact ⟨rfl, hD, hF⟩
    | succ f ih =>
      intro M' S' hl h3 hrr hV hD hF
      obtain ⟨r1, r2, r3⟩ := hD.2.2.2.2.2.2.2.2.2.2.2.2.2.2.2.2.2.2.2.1 i hi hrr
      have hst := hD.1
      obtain ⟨x, r, er⟩ : ∃ x r, M'.2.1 i = x :: r := by
        cases hM : M'.2.1 i with
        | nil => rw [hM] at hl; cases hl
        | cons a b => exact ⟨a, b, rfl⟩
      have c : ∀ f, f < 4 → S'.1 (35, 0, 0) (16 * i + f) = x.getD f 0 := fun f hf => by
        have t := r3 0 (by omega) f hf
        rw [Nat.mul_zero, Nat.add_zero, er] at t
        exact t
      rw [hl] at r1
      rw [mPop_s er]
      have hl4 : f + 1 ≤ 4 := by rw [← hl]; exact r2
      obtain ⟨D1, F1⟩ := hD.rm (k := 0) (u := f) hi hrr hl (Nat.zero_le _)
      rw [er] at D1
      have D1' : DR G (mRl M' i r) ow (zSh (gI S' (34, 0, 0) i (nI f)) (35, 0, 0) (16 * i + 4 * 0) (16 * i + 4 * f) 4) := D1
      refine gz_aload_n (pc := 37) cx qd_Z_ageRelays_37 rfl rfl ?_
      refine gz_getR (pc := 38) cx qf_Z_50 qd_Z_ageRelays_38 gm_Z rfl rfl (hst _ _ _ rfl) ?_
      refine gz_iload_n (pc := 41) cx qd_Z_ageRelays_41 rfl rfl ?_
      refine gz_ialoadV (pc := 42) cx qd_Z_ageRelays_42 (gm_za (by decide) (by decide)) rfl r1 rfl (by omega) (by decide) ?_
      refine gz_if_le (tgt := 116) (pc := 43) cx qd_Z_ageRelays_43 (by decide) (fun h43 => absurd h43 (nI_nle (by omega) (by omega))) (fun _ => ?_)
      refine gz_aload_n (pc := 46) cx qd_Z_ageRelays_46 rfl rfl ?_
      refine gz_getR (pc := 47) cx qf_Z_53 qd_Z_ageRelays_47 gm_Z rfl rfl (hst _ _ _ rfl) ?_
      refine gz_bipush (v := 16) (pc := 50) cx qd_Z_ageRelays_50 (by decide) ?_
      refine gz_iload_n (pc := 52) cx qd_Z_ageRelays_52 rfl rfl ?_
      refine gz_imul (pc := 53) cx qd_Z_ageRelays_53 ?_
      refine gz_iconst (v := 3) (pc := 54) cx qd_Z_ageRelays_54 (by decide) ?_
      refine gz_iadd (pc := 55) cx qd_Z_ageRelays_55 ?_
      try rw [ix16]
      refine gz_ialoadV (pc := 56) cx qd_Z_ageRelays_56 (gm_za (by decide) (by decide)) rfl (c 3 (by decide)) (ix16 i 3) (by omega) (by decide) ?_
      refine gz_iconst (v := 3) (pc := 57) cx qd_Z_ageRelays_57 (by decide) ?_
      refine gz_icmp_lt (tgt := 116) (pc := 58) cx qd_Z_ageRelays_58 (by decide) (fun h58 => ?_) (fun h58 => ?_)
      · refine gz_return (pc := 116) cx hr qd_Z_ageRelays_116 ?_
        rw [if_neg (Int32.not_le.mpr h58)]
        exact ⟨rfl, hD, hF⟩
      · refine gz_aload_n (pc := 61) cx qd_Z_ageRelays_61 rfl rfl ?_
        refine gz_getR (pc := 62) cx qf_Z_53 qd_Z_ageRelays_62 gm_Z rfl rfl (hst _ _ _ rfl) ?_
        refine gz_bipush (v := 16) (pc := 65) cx qd_Z_ageRelays_65 (by decide) ?_
        refine gz_iload_n (pc := 67) cx qd_Z_ageRelays_67 rfl rfl ?_
        refine gz_imul (pc := 68) cx qd_Z_ageRelays_68 ?_
        refine gz_ialoadV (pc := 69) cx qd_Z_ageRelays_69 (gm_za (by decide) (by decide)) rfl (c 0 (by decide)) (pk_mul 16 i) (by omega) (by decide) ?_
        refine gz_istore_n (pc := 70) cx qd_Z_ageRelays_70 rfl (Nat.le_of_ble_eq_true rfl) ?_
        refine gz_aload_n (pc := 71) cx qd_Z_ageRelays_71 rfl rfl ?_
        refine gz_getR (pc := 72) cx qf_Z_53 qd_Z_ageRelays_72 gm_Z rfl rfl (hst _ _ _ rfl) ?_
        refine gz_bipush (v := 16) (pc := 75) cx qd_Z_ageRelays_75 (by decide) ?_
        refine gz_iload_n (pc := 77) cx qd_Z_ageRelays_77 rfl rfl ?_
        refine gz_imul (pc := 78) cx qd_Z_ageRelays_78 ?_
        refine gz_iconst (v := 1) (pc := 79) cx qd_Z_ageRelays_79 (by decide) ?_
        refine gz_iadd (pc := 80) cx qd_Z_ageRelays_80 ?_
        try rw [ix16]
        refine gz_ialoadV (pc := 81) cx qd_Z_ageRelays_81 (gm_za (by decide) (by decide)) rfl (c 1 (by decide)) (ix16 i 1) (by omega) (by decide) ?_
        refine gz_istore_n (pc := 82) cx qd_Z_ageRelays_82 rfl (Nat.le_of_ble_eq_true rfl) ?_
        refine gz_aload_n (pc := 83) cx qd_Z_ageRelays_83 rfl rfl ?_
        refine gz_getR (pc := 84) cx qf_Z_53 qd_Z_ageRelays_84 gm_Z rfl rfl (hst _ _ _ rfl) ?_
        refine gz_bipush (v := 16) (pc := 87) cx qd_Z_ageRelays_87 (by decide) ?_
        refine gz_iload_n (pc := 89) cx qd_Z_ageRelays_89 rfl rfl ?_
        refine gz_imul (pc := 90) cx qd_Z_ageRelays_90 ?_
        refine gz_iconst (v := 2) (pc := 91) cx qd_Z_ageRelays_91 (by decide) ?_
        refine gz_iadd (pc := 92) cx qd_Z_ageRelays_92 ?_
        try rw [ix16]
        refine gz_ialoadV (pc := 93) cx qd_Z_ageRelays_93 (gm_za (by decide) (by decide)) rfl (c 2 (by decide)) (ix16 i 2) (by omega) (by decide) ?_
        refine gz_istore (pc := 94) cx qd_Z_ageRelays_94 (Nat.le_of_ble_eq_true rfl) ?_
        refine gz_aload_n (pc := 96) cx qd_Z_ageRelays_96 rfl rfl ?_
        refine gz_iload_n (pc := 97) cx qd_Z_ageRelays_97 rfl rfl ?_
        refine gz_iconst (v := 0) (pc := 98) cx qd_Z_ageRelays_98 (by decide) ?_
        refine gz_callV (pc := 99) cx qv_Z_137 qd_Z_ageRelays_99 (gc_Z_removeRelay (k := 0) (u := f) (by omega) (Nat.zero_le _) (by omega) r1 hst) (by decide) rfl gm_Z rfl rfl rfl rfl (Nat.le_of_ble_eq_true rfl) ⟨Nat.zero_le _, Nat.zero_le _⟩ ?_
        rintro _ _ ⟨rfl, rfl⟩
        refine gz_aload_n (pc := 102) cx qd_Z_ageRelays_102 rfl rfl ?_
        refine gz_iconst (v := 4) (pc := 103) cx qd_Z_ageRelays_103 (by decide) ?_
        refine gz_iload_n (pc := 104) cx qd_Z_ageRelays_104 rfl rfl ?_
        refine gz_iload_n (pc := 105) cx qd_Z_ageRelays_105 rfl rfl ?_
        refine gz_iload_n (pc := 106) cx qd_Z_ageRelays_106 rfl rfl ?_
        refine gz_iload_n (pc := 107) cx qd_Z_ageRelays_107 rfl rfl ?_
        refine gz_iload (pc := 108) cx qd_Z_ageRelays_108 rfl ?_
        refine gz_callV (pc := 110) cx qv_Z_123 qd_Z_ageRelays_110 (gc_zsend hi D1' hrr (Or.inr (by decide)) (fun q => absurd q (by decide)) hV.pos hV.st0) (by decide) rfl gm_Z rfl rfl rfl rfl (Nat.le_of_ble_eq_true rfl) ⟨Nat.zero_le _, Nat.zero_le _⟩ ?_
        rintro _ S2 ⟨rfl, c2, f2⟩
        refine gz_goto (tgt := 37) (pc := 113) cx qd_Z_ageRelays_113 (by decide) ?_
        refine gz_weak (lv' := [some (.inr (some (20, 0, 0))), some (.inl (nI i)), none, none, none]) ⟨rfl, rfl, trivial⟩ ?_
        rw [if_pos (Int32.not_lt.mp h58)]
        refine ih _ S2 ?_ ?_ ?_ ?_ c2 ((hF.tr F1).tr f2)
        · rw [mSend_r, mRl_at]; rw [er] at hl; simpa using hl
        · rw [mSend_r, mRl_at]; rw [er] at h3; exact h3.tail
        · unfold mRn; rw [mSend_1 (by decide)]; exact hrr
        · exact (hV.of (M' := mRl M' i r) (fun _ _ _ => rfl)).sent rfl
  suffices hh : ∀ k, k ≤ (M.2.1 i).length → ∀ S', DR G (mRl M i (zAg (M.2.1 i) k)) ow S' → gFc S S' → gZ G E 0 0 (gEnd G E 0 0 (gTt G) (fun v S' => v = none ∧ DR G (mPop G.1 i (M.2.1 i).length (mRl M i ((M.2.1 i).map mInc))) ow S' ∧ gFc S S')) (gTt G) 2 [some (.inr (some (20, 0, 0))), some (.inl (nI i)), some (.inl (nI k)), none, none] [] S' by
    refine gz_iconst (v := 0) (pc := 0) cx qd_Z_ageRelays_0 (by decide) ?_
    refine gz_istore_n (pc := 1) cx qd_Z_ageRelays_1 rfl (Nat.le_of_ble_eq_true rfl) ?_
    refine hh 0 (Nat.zero_le _) S ?_ gFc.rf
    rw [zAg_0, mRl_id rfl]
    exact h
  refine g_upto ?_ ?_
  · intro S' hD hF
    rw [zAg_e] at hD
    obtain ⟨r1, r2, r3⟩ := hD.2.2.2.2.2.2.2.2.2.2.2.2.2.2.2.2.2.2.2.1 i hi hrun
    rw [mRl_at, List.length_map] at r1
    have hst := hD.1
    refine gz_iload_n (pc := 2) cx qd_Z_ageRelays_2 rfl rfl ?_
    refine gz_aload_n (pc := 3) cx qd_Z_ageRelays_3 rfl rfl ?_
    refine gz_getR (pc := 4) cx qf_Z_50 qd_Z_ageRelays_4 gm_Z rfl rfl (hst _ _ _ rfl) ?_
    refine gz_iload_n (pc := 7) cx qd_Z_ageRelays_7 rfl rfl ?_
    refine gz_ialoadV (pc := 8) cx qd_Z_ageRelays_8 (gm_za (by decide) (by decide)) rfl r1 rfl (by omega) (by decide) ?_
    refine gz_icmp_ge (tgt := 37) (pc := 9) cx qd_Z_ageRelays_9 (by decide) (fun _ => ?_) (fun h9 => absurd (Int32.le_refl _) h9)
    refine gz_weak (lv' := [some (.inr (some (20, 0, 0))), some (.inl (nI i)), none, none, none]) ⟨rfl, rfl, trivial⟩ ?_
    exact pop _ _ S' (by rw [mRl_at, List.length_map]) (by rw [mRl_at]; exact v4.inc) hrun v2 hD hF
  · intro k hk ih S' hD hF
    obtain ⟨r1, r2, r3⟩ := hD.2.2.2.2.2.2.2.2.2.2.2.2.2.2.2.2.2.2.2.1 i hi hrun
    rw [mRl_at, zAg_len (by omega)] at r1 r2 r3
    have c3 := r3 k hk 3 (by decide)
    have hst := hD.1
    obtain ⟨D1, F1⟩ := hD.aged (k := k) hi hrun (by rw [mRl_at, zAg_len (by omega)]; exact hk)
    rw [mRl_at] at D1 F1
    rw [zAg_s hk, mRl_rl] at D1
    refine gz_iload_n (pc := 2) cx qd_Z_ageRelays_2 rfl rfl ?_
    refine gz_aload_n (pc := 3) cx qd_Z_ageRelays_3 rfl rfl ?_
    refine gz_getR (pc := 4) cx qf_Z_50 qd_Z_ageRelays_4 gm_Z rfl rfl (hst _ _ _ rfl) ?_
    refine gz_iload_n (pc := 7) cx qd_Z_ageRelays_7 rfl rfl ?_
    refine gz_ialoadV (pc := 8) cx qd_Z_ageRelays_8 (gm_za (by decide) (by decide)) rfl r1 rfl (by omega) (by decide) ?_
    refine gz_icmp_ge (tgt := 37) (pc := 9) cx qd_Z_ageRelays_9 (by decide) (fun h9 => absurd h9 (nI_ge hk (by omega))) (fun _ => ?_)
    refine gz_aload_n (pc := 12) cx qd_Z_ageRelays_12 rfl rfl ?_
    refine gz_getR (pc := 13) cx qf_Z_53 qd_Z_ageRelays_13 gm_Z rfl rfl (hst _ _ _ rfl) ?_
    refine gz_bipush (v := 16) (pc := 16) cx qd_Z_ageRelays_16 (by decide) ?_
    refine gz_iload_n (pc := 18) cx qd_Z_ageRelays_18 rfl rfl ?_
    refine gz_imul (pc := 19) cx qd_Z_ageRelays_19 ?_
    refine gz_iconst (v := 4) (pc := 20) cx qd_Z_ageRelays_20 (by decide) ?_
    refine gz_iload_n (pc := 21) cx qd_Z_ageRelays_21 rfl rfl ?_
    refine gz_imul (pc := 22) cx qd_Z_ageRelays_22 ?_
    refine gz_iadd (pc := 23) cx qd_Z_ageRelays_23 ?_
    try rw [ix16]
    rw [ix16_4]
    refine gz_iconst (v := 3) (pc := 24) cx qd_Z_ageRelays_24 (by decide) ?_
    refine gz_iadd (pc := 25) cx qd_Z_ageRelays_25 ?_
    try rw [ix4]
    refine gz_dup2 (pc := 26) cx qd_Z_ageRelays_26 ?_
    refine gz_ialoadV (pc := 27) cx qd_Z_ageRelays_27 (gm_za (by decide) (by decide)) rfl c3 (nI_add _ 3) (by omega) (by decide) ?_
    refine gz_iconst (v := 1) (pc := 28) cx qd_Z_ageRelays_28 (by decide) ?_
    refine gz_iadd (pc := 29) cx qd_Z_ageRelays_29 ?_
    refine gz_iastore (pc := 30) cx qd_Z_ageRelays_30 (gm_za (by decide) (by decide)) rfl (nI_add _ 3) (by omega) (by decide) ?_
    refine gz_iinc (pc := 31) cx qd_Z_ageRelays_31 rfl (g_inc k) ?_
    refine gz_goto (tgt := 2) (pc := 34) cx qd_Z_ageRelays_34 (by decide) ?_
    exact ih _ D1 (hF.tr F1)
def zCnt (x : Int32) : Nat → Int32
  | 0 => 0
  | k + 1 => zCnt x k + ((x >>> (nI k &&& 31)) &&& 1)
theorem zCnt_dec : ∀ v, v < 256 → zCnt (nI v) 8 = bitC (nI v) := by decide +kernel
theorem zCnt_eq {x : Int32} (h : isB x 255) : zCnt x 8 = bitC x := by
  obtain ⟨v, hv, rfl⟩ := h
  exact zCnt_dec v (by omega)
theorem gc_Z_count {G : gG} {la : Launch} {S : gS} {x : Int32}  : gM G la qy_Z_count qw_Z_count 0 0 0 (gTt G) (gTt G) [.inl x] S (fun v S' => v = some (.inl (zCnt x 8)) ∧ S' = S) := by
  refine gM_of (cc := qc_Z_count) (maxL := 3) (by decide) rfl (Nat.le_of_ble_eq_true rfl) ?_
  intro E cx hr hnm hcz hsz hEl
  subst hEl
  suffices hh : ∀ k, k ≤ 8 → (fun k => gZ G E 0 0 (gEnd G E 0 0 (gTt G) (fun v S' => v = some (.inl (zCnt x 8)) ∧ S' = S)) (gTt G) 4 [some (.inl x), some (.inl (zCnt x k)), some (.inl (nI k))] [] S) k by
    refine gz_iconst (v := 0) (pc := 0) cx qd_Z_count_0 (by decide) ?_
    refine gz_istore_n (pc := 1) cx qd_Z_count_1 rfl (Nat.le_of_ble_eq_true rfl) ?_
    refine gz_iconst (v := 0) (pc := 2) cx qd_Z_count_2 (by decide) ?_
    refine gz_istore_n (pc := 3) cx qd_Z_count_3 rfl (Nat.le_of_ble_eq_true rfl) ?_
    exact hh 0 (Nat.zero_le _)
  refine g_upto ?_ ?_
  · refine gz_iload_n (pc := 4) cx qd_Z_count_4 rfl rfl ?_
    refine gz_bipush (v := 8) (pc := 5) cx qd_Z_count_5 (by decide) ?_
    refine gz_icmp_ge (tgt := 24) (pc := 7) cx qd_Z_count_7 (by decide) (fun _ => ?_) (fun h7 => absurd (Int32.le_refl _) h7)
    refine gz_iload_n (pc := 24) cx qd_Z_count_24 rfl rfl ?_
    refine gz_ireturn (pc := 25) cx hr rfl qd_Z_count_25 ?_
    exact ⟨rfl, rfl⟩
  · intro k hk ih
    refine gz_iload_n (pc := 4) cx qd_Z_count_4 rfl rfl ?_
    refine gz_bipush (v := 8) (pc := 5) cx qd_Z_count_5 (by decide) ?_
    refine gz_icmp_ge (tgt := 24) (pc := 7) cx qd_Z_count_7 (by decide) (fun h7 => absurd h7 (nI_ge (b := 8) hk (by decide))) (fun _ => ?_)
    refine gz_iload_n (pc := 10) cx qd_Z_count_10 rfl rfl ?_
    refine gz_iload_n (pc := 11) cx qd_Z_count_11 rfl rfl ?_
    refine gz_iload_n (pc := 12) cx qd_Z_count_12 rfl rfl ?_
    refine gz_ishr (pc := 13) cx qd_Z_count_13 ?_
    refine gz_iconst (v := 1) (pc := 14) cx qd_Z_count_14 (by decide) ?_
    refine gz_iand (pc := 15) cx qd_Z_count_15 ?_
    refine gz_iadd (pc := 16) cx qd_Z_count_16 ?_
    refine gz_istore_n (pc := 17) cx qd_Z_count_17 rfl (Nat.le_of_ble_eq_true rfl) ?_
    refine gz_iinc (pc := 18) cx qd_Z_count_18 rfl (g_inc k) ?_
    refine gz_goto (tgt := 4) (pc := 21) cx qd_Z_count_21 (by decide) ?_
    exact ih
theorem gc_Z_expire {G : gG} {la : Launch} {M : mM} {D : Nat} {ow : Nat → Bool} {S : gS} {i : Nat} (hi : i < G.1) (h : DR G M ow S) (hrun : mRn M i) (hO : mInv G.1 D ow M) (how : ow i = false) : gM G la qy_Z_expire qw_Z_expire 2 0 0 (gTt G) (gTt G) [.inr (some (20, 0, 0)), .inl (nI i)] S (fun v S' => v = none ∧ DR G (mBury M i (M.1 31 0 0) G.1) ow S' ∧ gFc S S') := by
  refine gM_of (cc := qc_Z_expire) (maxL := 5) (by decide) rfl (Nat.le_of_ble_eq_true rfl) ?_
  intro E cx hr hnm hcz hsz hEl
  subst hEl
  have h8 := h.2.1.1
  suffices hh : ∀ k, k ≤ G.1 → ∀ S', DR G (mBury M i (M.1 31 0 0) k) ow S' → gFc S S' → gZ G E 0 0 (gEnd G E 0 0 (gTt G) (fun v S' => v = none ∧ DR G (mBury M i (M.1 31 0 0) G.1) ow S' ∧ gFc S S')) (gTt G) 2 [some (.inr (some (20, 0, 0))), some (.inl (nI i)), some (.inl (nI k)), none, none] [] S' by
    refine gz_iconst (v := 0) (pc := 0) cx qd_Z_expire_0 (by decide) ?_
    refine gz_istore_n (pc := 1) cx qd_Z_expire_1 rfl (Nat.le_of_ble_eq_true rfl) ?_
    exact hh 0 (Nat.zero_le _) S h gFc.rf
  refine g_upto ?_ ?_
  · intro S' hD hF
    have hn := hD.2.2.1
    refine gz_iload_n (pc := 2) cx qd_Z_expire_2 rfl rfl ?_
    refine gz_aload_n (pc := 3) cx qd_Z_expire_3 rfl rfl ?_
    refine gz_getV (pc := 4) cx qf_Z_86 qd_Z_expire_4 gm_Z rfl rfl hn ?_
    refine gz_icmp_ge (tgt := 99) (pc := 7) cx qd_Z_expire_7 (by decide) (fun _ => ?_) (fun h7 => absurd (Int32.le_refl _) h7)
    refine gz_return (pc := 99) cx hr qd_Z_expire_99 ?_
    exact ⟨rfl, hD, hF⟩
  · intro k hk ih S' hD hF
    have hr' : mRn (mBury M i (M.1 31 0 0) k) i := mBury_rn.mpr hrun
    have hO' := hO.bury (i := i) (w := M.1 31 0 0) k
    have hV := (hO'.2.2.2.2 i hi hr').2.1
    have ew : (mBury M i (M.1 31 0 0) k).1 31 0 0 = M.1 31 0 0 := mBury_1 (by decide)
    have hs : mBury M i (M.1 31 0 0) (k + 1) = mBury1 (mBury M i (M.1 31 0 0) k) i k (M.1 31 0 0) := rfl
    generalize mBury M i (M.1 31 0 0) k = N at hD hr' hO' hV ew hs
    have hst := hD.1
    have hn := hD.2.2.1
    have hw := hD.2.2.2.1
    rw [ew] at hw
    have hOw : mOw N ow i k := ⟨hr', fun q => by rw [how] at q; cases q.1⟩
    have f0 := hD.2.2.2.2.2.2.2.2.2.2.2.2.2.2.2.2.2.2.2.2.1 i k hi hk hOw
    have f1 := hD.2.2.2.2.2.2.2.2.2.2.2.2.2.2.2.2.2.2.2.2.2.1 i k hi hk hr'
    have f2 := hD.2.2.2.2.2.2.2.2.2.2.2.2.2.2.2.2.2.2.2.2.2.2.1 i k hi hk hOw
    have f3 := hD.2.2.2.2.2.2.2.2.2.2.2.2.2.2.2.2.2.2.2.2.2.2.2.1 i k hi hk hOw
    have hki : nI k = nI i ↔ k = i := nI_eq (by omega) (by omega)
    have hcf := zCnt_eq (hV k hk).2.1
    have mc1 : 3 < bitC (N.1 3 i k) → mConf (N.1 3 i k) = 3 := fun q => if_neg (Int32.lt_asymm q)
    have mc2 : bitC (N.1 3 i k) ≤ 3 → mConf (N.1 3 i k) = bitC (N.1 3 i k) := fun q => by
      unfold mConf
      by_cases z : bitC (N.1 3 i k) < 3
      · rw [if_pos z]
      · rw [if_neg z]; exact Int32.le_antisymm (Int32.not_lt.mp z) q
    have skip : ∀ x y, N = mBury M i (M.1 31 0 0) (k + 1) → gZ G E 0 0 (gEnd G E 0 0 (gTt G) (fun v S' => v = none ∧ DR G (mBury M i (M.1 31 0 0) G.1) ow S' ∧ gFc S S')) (gTt G) 2 [some (.inr (some (20, 0, 0))), some (.inl (nI i)), some (.inl (nI (k + 1))), x, y] [] S' := fun x y e => by
      refine gz_weak (lv' := [some (.inr (some (20, 0, 0))), some (.inl (nI i)), some (.inl (nI (k + 1))), none, none]) ⟨rfl, rfl, rfl, trivial⟩ ?_
      exact ih S' (e ▸ hD) hF
    rw [mBury1] at hs
    refine gz_iload_n (pc := 2) cx qd_Z_expire_2 rfl rfl ?_
    refine gz_aload_n (pc := 3) cx qd_Z_expire_3 rfl rfl ?_
    refine gz_getV (pc := 4) cx qf_Z_86 qd_Z_expire_4 gm_Z rfl rfl hn ?_
    refine gz_icmp_ge (tgt := 99) (pc := 7) cx qd_Z_expire_7 (by decide) (fun h7 => absurd h7 (nI_ge hk (by omega))) (fun _ => ?_)
    refine gz_bipush (v := 8) (pc := 10) cx qd_Z_expire_10 (by decide) ?_
    refine gz_iload_n (pc := 12) cx qd_Z_expire_12 rfl rfl ?_
    refine gz_imul (pc := 13) cx qd_Z_expire_13 ?_
    refine gz_iload_n (pc := 14) cx qd_Z_expire_14 rfl rfl ?_
    refine gz_iadd (pc := 15) cx qd_Z_expire_15 ?_
    try rw [ix8]
    refine gz_istore_n (pc := 16) cx qd_Z_expire_16 rfl (Nat.le_of_ble_eq_true rfl) ?_
    refine gz_aload_n (pc := 17) cx qd_Z_expire_17 rfl rfl ?_
    refine gz_getR (pc := 18) cx qf_Z_38 qd_Z_expire_18 gm_Z rfl rfl (hst _ _ _ rfl) ?_
    refine gz_iload_n (pc := 21) cx qd_Z_expire_21 rfl rfl ?_
    refine gz_ialoadV (pc := 22) cx qd_Z_expire_22 (gm_za (by decide) (by decide)) rfl f3 rfl (by omega) (by decide) ?_
    refine gz_callS (pc := 23) cx qs_Z_150 qd_Z_expire_23 (gc_Z_count) (by decide) rfl rfl rfl (Nat.le_of_ble_eq_true rfl) ⟨Nat.zero_le _, Nat.zero_le _⟩ ?_
    rintro _ _ ⟨rfl, rfl⟩
    rw [hcf]
    refine gz_istore (pc := 26) cx qd_Z_expire_26 (Nat.le_of_ble_eq_true rfl) ?_
    refine gz_iload (pc := 28) cx qd_Z_expire_28 rfl ?_
    refine gz_iconst (v := 3) (pc := 30) cx qd_Z_expire_30 (by decide) ?_
    refine gz_icmp_le (tgt := 38) (pc := 31) cx qd_Z_expire_31 (by decide) (fun h31 => ?_) (fun h31 => ?_)
    · refine gz_iload (pc := 38) cx qd_Z_expire_38 rfl ?_
      rw [← mc2 h31]
      refine gz_istore (pc := 40) cx qd_Z_expire_40 (Nat.le_of_ble_eq_true rfl) ?_
      refine gz_iload_n (pc := 42) cx qd_Z_expire_42 rfl rfl ?_
      refine gz_iload_n (pc := 43) cx qd_Z_expire_43 rfl rfl ?_
      refine gz_icmp_eq (tgt := 93) (pc := 44) cx qd_Z_expire_44 (by decide) (fun h44 => ?_) (fun h44 => ?_)
      · refine gz_iinc (pc := 93) cx qd_Z_expire_93 rfl (g_inc k) ?_
        refine gz_goto (tgt := 2) (pc := 96) cx qd_Z_expire_96 (by decide) ?_
        exact skip _ _ (by rw [hs, if_neg (fun q => q.1 (hki.mp h44))])
      · refine gz_aload_n (pc := 47) cx qd_Z_expire_47 rfl rfl ?_
        refine gz_getR (pc := 48) cx qf_Z_29 qd_Z_expire_48 gm_Z rfl rfl (hst _ _ _ rfl) ?_
        refine gz_iload_n (pc := 51) cx qd_Z_expire_51 rfl rfl ?_
        refine gz_ialoadV (pc := 52) cx qd_Z_expire_52 (gm_za (by decide) (by decide)) rfl f0 rfl (by omega) (by decide) ?_
        refine gz_iconst (v := 2) (pc := 53) cx qd_Z_expire_53 (by decide) ?_
        refine gz_icmp_ne (tgt := 93) (pc := 54) cx qd_Z_expire_54 (by decide) (fun h54 => ?_) (fun h54 => ?_)
        · refine gz_iinc (pc := 93) cx qd_Z_expire_93 rfl (g_inc k) ?_
          refine gz_goto (tgt := 2) (pc := 96) cx qd_Z_expire_96 (by decide) ?_
          exact skip _ _ (by rw [hs, if_neg (fun q => h54 q.2.1)])
        · refine gz_aload_n (pc := 57) cx qd_Z_expire_57 rfl rfl ?_
          refine gz_getV (pc := 58) cx qf_Z_112 qd_Z_expire_58 gm_Z rfl rfl hw ?_
          refine gz_aload_n (pc := 61) cx qd_Z_expire_61 rfl rfl ?_
          refine gz_getR (pc := 62) cx qf_Z_35 qd_Z_expire_62 gm_Z rfl rfl (hst _ _ _ rfl) ?_
          refine gz_iload_n (pc := 65) cx qd_Z_expire_65 rfl rfl ?_
          refine gz_ialoadV (pc := 66) cx qd_Z_expire_66 (gm_za (by decide) (by decide)) rfl f2 rfl (by omega) (by decide) ?_
          refine gz_isub (pc := 67) cx qd_Z_expire_67 ?_
          refine gz_bipush (v := 24) (pc := 68) cx qd_Z_expire_68 (by decide) ?_
          refine gz_bipush (v := 6) (pc := 70) cx qd_Z_expire_70 (by decide) ?_
          refine gz_iload (pc := 72) cx qd_Z_expire_72 rfl ?_
          refine gz_imul (pc := 74) cx qd_Z_expire_74 ?_
          refine gz_isub (pc := 75) cx qd_Z_expire_75 ?_
          refine gz_icmp_lt (tgt := 93) (pc := 76) cx qd_Z_expire_76 (by decide) (fun h76 => ?_) (fun h76 => ?_)
          · refine gz_iinc (pc := 93) cx qd_Z_expire_93 rfl (g_inc k) ?_
            refine gz_goto (tgt := 2) (pc := 96) cx qd_Z_expire_96 (by decide) ?_
            exact skip _ _ (by rw [hs, if_neg (fun q => absurd h76 (Int32.not_lt.mpr q.2.2))])
          · refine gz_aload_n (pc := 79) cx qd_Z_expire_79 rfl rfl ?_
            refine gz_iload_n (pc := 80) cx qd_Z_expire_80 rfl rfl ?_
            refine gz_iload_n (pc := 81) cx qd_Z_expire_81 rfl rfl ?_
            refine gz_iconst (v := 3) (pc := 82) cx qd_Z_expire_82 (by decide) ?_
            refine gz_aload_n (pc := 83) cx qd_Z_expire_83 rfl rfl ?_
            refine gz_getR (pc := 84) cx qf_Z_32 qd_Z_expire_84 gm_Z rfl rfl (hst _ _ _ rfl) ?_
            refine gz_iload_n (pc := 87) cx qd_Z_expire_87 rfl rfl ?_
            refine gz_ialoadV (pc := 88) cx qd_Z_expire_88 (gm_za (by decide) (by decide)) rfl f1 rfl (by omega) (by decide) ?_
            refine gz_iload_n (pc := 89) cx qd_Z_expire_89 rfl rfl ?_
            refine gz_callV (pc := 90) cx qv_Z_119 qd_Z_expire_90 (gc_Z_enter (by omega) (by omega) hst) (by decide) rfl gm_Z rfl rfl rfl rfl (Nat.le_of_ble_eq_true rfl) ⟨Nat.zero_le _, Nat.zero_le _⟩ ?_
            rintro _ _ ⟨rfl, rfl⟩
            rw [hw, if_neg (by decide)]
            obtain ⟨c1, g1⟩ := hD.enter (i := i) hk 3 (N.1 1 i k) (M.1 31 0 0) 0
            refine gz_iinc (pc := 93) cx qd_Z_expire_93 rfl (g_inc k) ?_
            refine gz_goto (tgt := 2) (pc := 96) cx qd_Z_expire_96 (by decide) ?_
            refine gz_weak (lv' := [some (.inr (some (20, 0, 0))), some (.inl (nI i)), some (.inl (nI (k + 1))), none, none]) ⟨rfl, rfl, rfl, trivial⟩ ?_
            refine ih _ ?_ (hF.tr g1)
            rw [hs, if_pos ⟨fun q => h44 (hki.mpr q), h54, Int32.not_lt.mp h76⟩]
            exact c1
    · refine gz_iconst (v := 3) (pc := 34) cx qd_Z_expire_34 (by decide) ?_
      refine gz_goto (tgt := 40) (pc := 35) cx qd_Z_expire_35 (by decide) ?_
      have hc := mc1 (Int32.not_le.mp h31)
      rw [show (3 : Int32) = mConf (N.1 3 i k) from hc.symm]
      refine gz_istore (pc := 40) cx qd_Z_expire_40 (Nat.le_of_ble_eq_true rfl) ?_
      refine gz_iload_n (pc := 42) cx qd_Z_expire_42 rfl rfl ?_
      refine gz_iload_n (pc := 43) cx qd_Z_expire_43 rfl rfl ?_
      refine gz_icmp_eq (tgt := 93) (pc := 44) cx qd_Z_expire_44 (by decide) (fun h44 => ?_) (fun h44 => ?_)
      · refine gz_iinc (pc := 93) cx qd_Z_expire_93 rfl (g_inc k) ?_
        refine gz_goto (tgt := 2) (pc := 96) cx qd_Z_expire_96 (by decide) ?_
        exact skip _ _ (by rw [hs, if_neg (fun q => q.1 (hki.mp h44))])
      · refine gz_aload_n (pc := 47) cx qd_Z_expire_47 rfl rfl ?_
        refine gz_getR (pc := 48) cx qf_Z_29 qd_Z_expire_48 gm_Z rfl rfl (hst _ _ _ rfl) ?_
        refine gz_iload_n (pc := 51) cx qd_Z_expire_51 rfl rfl ?_
        refine gz_ialoadV (pc := 52) cx qd_Z_expire_52 (gm_za (by decide) (by decide)) rfl f0 rfl (by omega) (by decide) ?_
        refine gz_iconst (v := 2) (pc := 53) cx qd_Z_expire_53 (by decide) ?_
        refine gz_icmp_ne (tgt := 93) (pc := 54) cx qd_Z_expire_54 (by decide) (fun h54 => ?_) (fun h54 => ?_)
        · refine gz_iinc (pc := 93) cx qd_Z_expire_93 rfl (g_inc k) ?_
          refine gz_goto (tgt := 2) (pc := 96) cx qd_Z_expire_96 (by decide) ?_
          exact skip _ _ (by rw [hs, if_neg (fun q => h54 q.2.1)])
        · refine gz_aload_n (pc := 57) cx qd_Z_expire_57 rfl rfl ?_
          refine gz_getV (pc := 58) cx qf_Z_112 qd_Z_expire_58 gm_Z rfl rfl hw ?_
          refine gz_aload_n (pc := 61) cx qd_Z_expire_61 rfl rfl ?_
          refine gz_getR (pc := 62) cx qf_Z_35 qd_Z_expire_62 gm_Z rfl rfl (hst _ _ _ rfl) ?_
          refine gz_iload_n (pc := 65) cx qd_Z_expire_65 rfl rfl ?_
          refine gz_ialoadV (pc := 66) cx qd_Z_expire_66 (gm_za (by decide) (by decide)) rfl f2 rfl (by omega) (by decide) ?_
          refine gz_isub (pc := 67) cx qd_Z_expire_67 ?_
          refine gz_bipush (v := 24) (pc := 68) cx qd_Z_expire_68 (by decide) ?_
          refine gz_bipush (v := 6) (pc := 70) cx qd_Z_expire_70 (by decide) ?_
          refine gz_iload (pc := 72) cx qd_Z_expire_72 rfl ?_
          refine gz_imul (pc := 74) cx qd_Z_expire_74 ?_
          refine gz_isub (pc := 75) cx qd_Z_expire_75 ?_
          refine gz_icmp_lt (tgt := 93) (pc := 76) cx qd_Z_expire_76 (by decide) (fun h76 => ?_) (fun h76 => ?_)
          · refine gz_iinc (pc := 93) cx qd_Z_expire_93 rfl (g_inc k) ?_
            refine gz_goto (tgt := 2) (pc := 96) cx qd_Z_expire_96 (by decide) ?_
            exact skip _ _ (by rw [hs, if_neg (fun q => absurd h76 (Int32.not_lt.mpr q.2.2))])
          · refine gz_aload_n (pc := 79) cx qd_Z_expire_79 rfl rfl ?_
            refine gz_iload_n (pc := 80) cx qd_Z_expire_80 rfl rfl ?_
            refine gz_iload_n (pc := 81) cx qd_Z_expire_81 rfl rfl ?_
            refine gz_iconst (v := 3) (pc := 82) cx qd_Z_expire_82 (by decide) ?_
            refine gz_aload_n (pc := 83) cx qd_Z_expire_83 rfl rfl ?_
            refine gz_getR (pc := 84) cx qf_Z_32 qd_Z_expire_84 gm_Z rfl rfl (hst _ _ _ rfl) ?_
            refine gz_iload_n (pc := 87) cx qd_Z_expire_87 rfl rfl ?_
            refine gz_ialoadV (pc := 88) cx qd_Z_expire_88 (gm_za (by decide) (by decide)) rfl f1 rfl (by omega) (by decide) ?_
            refine gz_iload_n (pc := 89) cx qd_Z_expire_89 rfl rfl ?_
            refine gz_callV (pc := 90) cx qv_Z_119 qd_Z_expire_90 (gc_Z_enter (by omega) (by omega) hst) (by decide) rfl gm_Z rfl rfl rfl rfl (Nat.le_of_ble_eq_true rfl) ⟨Nat.zero_le _, Nat.zero_le _⟩ ?_
            rintro _ _ ⟨rfl, rfl⟩
            rw [hw, if_neg (by decide)]
            obtain ⟨c1, g1⟩ := hD.enter (i := i) hk 3 (N.1 1 i k) (M.1 31 0 0) 0
            refine gz_iinc (pc := 93) cx qd_Z_expire_93 rfl (g_inc k) ?_
            refine gz_goto (tgt := 2) (pc := 96) cx qd_Z_expire_96 (by decide) ?_
            refine gz_weak (lv' := [some (.inr (some (20, 0, 0))), some (.inl (nI i)), some (.inl (nI (k + 1))), none, none]) ⟨rfl, rfl, rfl, trivial⟩ ?_
            refine ih _ ?_ (hF.tr g1)
            rw [hs, if_pos ⟨fun q => h44 (hki.mpr q), h54, Int32.not_lt.mp h76⟩]
            exact c1
def zOk (M : mM) (i : Nat) (oth : Int32) (sus : Bool) (m : Nat) : Bool := decide (m ≠ i ∧ nI m ≠ oth ∧ (M.1 0 i m = 1 ∨ (sus = true ∧ M.1 0 i m = 2)))
theorem mNextF_congr {n b : Nat} {ok ok' : Nat → Bool} (hn : 0 < n) (h : ∀ m, m < n → ok m = ok' m) : ∀ {rem k : Nat}, mNextF n b ok rem k = mNextF n b ok' rem k
  | 0, _ => rfl
  | rem + 1, k => by rw [mNextF, mNextF, h _ (Nat.mod_lt _ hn), mNextF_congr hn h]
theorem zOk_2 {n : Nat} {M : mM} {i m : Nat} (h8 : n ≤ 8) (hV : mVt n M i) (hm : m < n) : zOk M i (-1) true m = mOkS M i 2 m := by
  unfold zOk mOkS
  obtain ⟨s, hs, es⟩ := (hV m hm).1
  have h1 : nI m ≠ -1 := isN_ne h8 hm
  rw [es]
  have : ∀ s, s ≤ 3 → ((nI s = 1 ∨ nI s = 2) ↔ (¬ nI s = 0 ∧ nI s ≤ 2)) := by decide +kernel
  simp only [ne_eq, h1, not_false_eq_true, true_and, this s hs]
theorem zOk_1 {n : Nat} {M : mM} {i m : Nat} (h8 : n ≤ 8) (hV : mVt n M i) (hm : m < n) : zOk M i (-1) false m = mOkS M i 1 m := by
  unfold zOk mOkS
  obtain ⟨s, hs, es⟩ := (hV m hm).1
  have h1 : nI m ≠ -1 := isN_ne h8 hm
  rw [es]
  have : ∀ s, s ≤ 3 → ((nI s = 1 ∨ (false = true ∧ nI s = 2)) ↔ (nI s ≠ 0 ∧ nI s ≤ 1)) := by decide +kernel
  simp only [ne_eq, h1, not_false_eq_true, true_and, this s hs]
theorem gc_Z_nextOf {G : gG} {la : Launch} {M : mM} {ow : Nat → Bool} {S : gS} {i b : Nat} {oth : Int32} {sus : Bool} (hi : i < G.1) (hb : b < G.1) (h : DR G M ow S) (hrun : mRn M i) (how : ow i = false) : gM G la qy_Z_nextOf qw_Z_nextOf 0 0 0 (gTt G) (gTt G) [.inr (some (20, 0, 0)), .inl (nI i), .inl (nI b), .inl oth, .inl (bI sus)] S (fun v S' => v = some (.inl (mB (mNext G.1 b (zOk M i oth sus)))) ∧ S' = S) := by
  refine gM_of (cc := qc_Z_nextOf) (maxL := 8) (by decide) rfl (Nat.le_of_ble_eq_true rfl) ?_
  intro E cx hr hnm hcz hsz hEl
  subst hEl
  have hst := h.1
  have hn := h.2.2.1
  have h8 := h.2.1.1
  suffices hh : ∀ rem k, k + rem = G.1 + 1 → 1 ≤ k → mNext G.1 b (zOk M i oth sus) = mNextF G.1 b (zOk M i oth sus) rem k → gZ G E 0 0 (gEnd G E 0 0 (gTt G) (fun v S' => v = some (.inl (mB (mNext G.1 b (zOk M i oth sus)))) ∧ S' = S)) (gTt G) 3 [some (.inr (some (20, 0, 0))), some (.inl (nI i)), some (.inl (nI b)), some (.inl oth), some (.inl (bI sus)), some (.inl (nI k)), none, none] [] S by
    refine gz_iconst (v := 1) (pc := 0) cx qd_Z_nextOf_0 (by decide) ?_
    refine gz_istore (pc := 1) cx qd_Z_nextOf_1 (Nat.le_of_ble_eq_true rfl) ?_
    exact hh G.1 1 (by omega) (Nat.le_refl _) rfl
  intro rem
  induction rem with
  | zero =>
    intro k hk hk1 he
    refine gz_iload (pc := 3) cx qd_Z_nextOf_3 rfl ?_
    refine gz_aload_n (pc := 5) cx qd_Z_nextOf_5 rfl rfl ?_
    refine gz_getV (pc := 6) cx qf_Z_86 qd_Z_nextOf_6 gm_Z rfl rfl hn ?_
    refine gz_icmp_gt (tgt := 75) (pc := 9) cx qd_Z_nextOf_9 (by decide) (fun _ => ?_) (fun h9 => absurd (show nI G.1 < nI k from nI_lt (by omega) (by omega)) h9)
    refine gz_iconst (v := -1) (pc := 75) cx qd_Z_nextOf_75 (by decide) ?_
    refine gz_ireturn (pc := 76) cx hr rfl qd_Z_nextOf_76 ?_
    exact ⟨by rw [he]; rfl, rfl⟩
  | succ rem ih =>
    intro k hk hk1 he
    have hmn : (b + k) % G.1 < G.1 := Nat.mod_lt _ (by omega)
    have e0 := h.2.2.2.2.2.2.2.2.2.2.2.2.2.2.2.2.2.2.2.2.1 i _ hi hmn ⟨hrun, fun q => by rw [how] at q; cases q.1⟩
    have hmi : nI ((b + k) % G.1) = nI i ↔ (b + k) % G.1 = i := nI_eq (by omega) (by omega)
    have hsus : bI sus = 0 ↔ sus = false := by cases sus <;> decide
    refine gz_iload (pc := 3) cx qd_Z_nextOf_3 rfl ?_
    refine gz_aload_n (pc := 5) cx qd_Z_nextOf_5 rfl rfl ?_
    refine gz_getV (pc := 6) cx qf_Z_86 qd_Z_nextOf_6 gm_Z rfl rfl hn ?_
    refine gz_icmp_gt (tgt := 75) (pc := 9) cx qd_Z_nextOf_9 (by decide) (fun h9 => absurd h9 (nI_nlt (by omega) (by omega))) (fun _ => ?_)
    refine gz_iload_n (pc := 12) cx qd_Z_nextOf_12 rfl rfl ?_
    refine gz_iload (pc := 13) cx qd_Z_nextOf_13 rfl ?_
    refine gz_iadd (pc := 15) cx qd_Z_nextOf_15 ?_
    refine gz_aload_n (pc := 16) cx qd_Z_nextOf_16 rfl rfl ?_
    refine gz_getV (pc := 17) cx qf_Z_86 qd_Z_nextOf_17 gm_Z rfl rfl hn ?_
    refine gz_irem (pc := 20) cx qd_Z_nextOf_20 (nI_ne0 (by omega) (by omega)) ?_
    rw [nI_add, pk_rem (by omega) (by omega) (by omega)]
    refine gz_istore (pc := 21) cx qd_Z_nextOf_21 (Nat.le_of_ble_eq_true rfl) ?_
    refine gz_aload_n (pc := 23) cx qd_Z_nextOf_23 rfl rfl ?_
    refine gz_getR (pc := 24) cx qf_Z_29 qd_Z_nextOf_24 gm_Z rfl rfl (hst _ _ _ rfl) ?_
    refine gz_bipush (v := 8) (pc := 27) cx qd_Z_nextOf_27 (by decide) ?_
    refine gz_iload_n (pc := 29) cx qd_Z_nextOf_29 rfl rfl ?_
    refine gz_imul (pc := 30) cx qd_Z_nextOf_30 ?_
    refine gz_iload (pc := 31) cx qd_Z_nextOf_31 rfl ?_
    refine gz_iadd (pc := 33) cx qd_Z_nextOf_33 ?_
    try rw [ix8]
    refine gz_ialoadV (pc := 34) cx qd_Z_nextOf_34 (gm_za (by decide) (by decide)) rfl e0 rfl (by omega) (by decide) ?_
    refine gz_istore (pc := 35) cx qd_Z_nextOf_35 (Nat.le_of_ble_eq_true rfl) ?_
    refine gz_iload (pc := 37) cx qd_Z_nextOf_37 rfl ?_
    refine gz_iload_n (pc := 39) cx qd_Z_nextOf_39 rfl rfl ?_
    refine gz_icmp_eq (tgt := 69) (pc := 40) cx qd_Z_nextOf_40 (by decide) (fun h40 => ?_) (fun h40 => ?_)
    · refine gz_iinc (pc := 69) cx qd_Z_nextOf_69 rfl (g_inc k) ?_
      refine gz_goto (tgt := 3) (pc := 72) cx qd_Z_nextOf_72 (by decide) ?_
      refine gz_weak (lv' := [some (.inr (some (20, 0, 0))), some (.inl (nI i)), some (.inl (nI b)), some (.inl oth), some (.inl (bI sus)), some (.inl (nI (k + 1))), none, none]) ⟨rfl, rfl, rfl, rfl, rfl, rfl, trivial⟩ ?_
      refine ih (k + 1) (by omega) (by omega) ?_
      rw [he, mNextF, if_neg]
      unfold zOk
      exact fun q => (of_decide_eq_true q).1 (hmi.mp h40)
    · refine gz_iload (pc := 43) cx qd_Z_nextOf_43 rfl ?_
      refine gz_iload_n (pc := 45) cx qd_Z_nextOf_45 rfl rfl ?_
      refine gz_icmp_eq (tgt := 69) (pc := 46) cx qd_Z_nextOf_46 (by decide) (fun h46 => ?_) (fun h46 => ?_)
      · refine gz_iinc (pc := 69) cx qd_Z_nextOf_69 rfl (g_inc k) ?_
        refine gz_goto (tgt := 3) (pc := 72) cx qd_Z_nextOf_72 (by decide) ?_
        refine gz_weak (lv' := [some (.inr (some (20, 0, 0))), some (.inl (nI i)), some (.inl (nI b)), some (.inl oth), some (.inl (bI sus)), some (.inl (nI (k + 1))), none, none]) ⟨rfl, rfl, rfl, rfl, rfl, rfl, trivial⟩ ?_
        refine ih (k + 1) (by omega) (by omega) ?_
        rw [he, mNextF, if_neg]
        unfold zOk
        exact fun q => (of_decide_eq_true q).2.1 h46
      · refine gz_iload (pc := 49) cx qd_Z_nextOf_49 rfl ?_
        refine gz_iconst (v := 1) (pc := 51) cx qd_Z_nextOf_51 (by decide) ?_
        refine gz_icmp_eq (tgt := 66) (pc := 52) cx qd_Z_nextOf_52 (by decide) (fun h52 => ?_) (fun h52 => ?_)
        · refine gz_iload (pc := 66) cx qd_Z_nextOf_66 rfl ?_
          refine gz_ireturn (pc := 68) cx hr rfl qd_Z_nextOf_68 ?_
          refine ⟨?_, rfl⟩
          rw [he, mNextF, if_pos]
          · rfl
          · unfold zOk
            exact decide_eq_true ⟨fun q => h40 (hmi.mpr q), h46, Or.inl h52⟩
        · refine gz_iload (pc := 55) cx qd_Z_nextOf_55 rfl ?_
          refine gz_if_eq (tgt := 69) (pc := 57) cx qd_Z_nextOf_57 (by decide) (fun h57 => ?_) (fun h57 => ?_)
          · refine gz_iinc (pc := 69) cx qd_Z_nextOf_69 rfl (g_inc k) ?_
            refine gz_goto (tgt := 3) (pc := 72) cx qd_Z_nextOf_72 (by decide) ?_
            refine gz_weak (lv' := [some (.inr (some (20, 0, 0))), some (.inl (nI i)), some (.inl (nI b)), some (.inl oth), some (.inl (bI sus)), some (.inl (nI (k + 1))), none, none]) ⟨rfl, rfl, rfl, rfl, rfl, rfl, trivial⟩ ?_
            refine ih (k + 1) (by omega) (by omega) ?_
            rw [he, mNextF, if_neg]
            unfold zOk
            exact fun q => (of_decide_eq_true q).2.2.elim h52 (fun z => by rw [hsus.mp h57] at z; cases z.1)
          · refine gz_iload (pc := 60) cx qd_Z_nextOf_60 rfl ?_
            refine gz_iconst (v := 2) (pc := 62) cx qd_Z_nextOf_62 (by decide) ?_
            refine gz_icmp_ne (tgt := 69) (pc := 63) cx qd_Z_nextOf_63 (by decide) (fun h63 => ?_) (fun h63 => ?_)
            · refine gz_iinc (pc := 69) cx qd_Z_nextOf_69 rfl (g_inc k) ?_
              refine gz_goto (tgt := 3) (pc := 72) cx qd_Z_nextOf_72 (by decide) ?_
              refine gz_weak (lv' := [some (.inr (some (20, 0, 0))), some (.inl (nI i)), some (.inl (nI b)), some (.inl oth), some (.inl (bI sus)), some (.inl (nI (k + 1))), none, none]) ⟨rfl, rfl, rfl, rfl, rfl, rfl, trivial⟩ ?_
              refine ih (k + 1) (by omega) (by omega) ?_
              rw [he, mNextF, if_neg]
              unfold zOk
              exact fun q => (of_decide_eq_true q).2.2.elim h52 (fun z => h63 z.2)
            · refine gz_iload (pc := 66) cx qd_Z_nextOf_66 rfl ?_
              refine gz_ireturn (pc := 68) cx hr rfl qd_Z_nextOf_68 ?_
              refine ⟨?_, rfl⟩
              rw [he, mNextF, if_pos]
              · rfl
              · unfold zOk
                exact decide_eq_true ⟨fun q => h40 (hmi.mpr q), h46, Or.inr ⟨by cases sus; exact absurd rfl h57; rfl, h63⟩⟩
