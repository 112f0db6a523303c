/-! a probe begins and ends -/
theorem DR.prb {G : gG} {M : mM} {ow : Nat → Bool} {S : gS} (h : DR G M ow S) {i m : Nat} (hm : nI m ≠ -1) (nb : Int32) : DR G (mSet (mSet (mSet (mSet (mSet (mSet (mSet M 21 i 0 (nI m)) 22 i 0 (nI m)) 20 i 0 nb) 23 i 0 0) 24 i 0 0) 25 i 0 0) 26 i 0 0) ow (gI (gI (gI (gI (gI (gI (gI (gI S (36, 0, 0) i 1) (44, 0, 0) i (nI m)) (37, 0, 0) i (nI m)) (38, 0, 0) i 0) (39, 0, 0) i 0) (42, 0, 0) i 0) (43, 0, 0) i 0) (40, 0, 0) i nb) ∧ gFc S (gI (gI (gI (gI (gI (gI (gI (gI S (36, 0, 0) i 1) (44, 0, 0) i (nI m)) (37, 0, 0) i (nI m)) (38, 0, 0) i 0) (39, 0, 0) i 0) (42, 0, 0) i 0) (43, 0, 0) i 0) (40, 0, 0) i nb) := by
  obtain ⟨d0, d1, d2, d3, d4, d5, d6, d7, d8, d9, d10, d11, d12, d13, d14, d15, d16, d17, d18, d19, d20, d21, d22, d23, d24, d25, d26⟩ := h
  have e13 : DPb G (gI S (36, 0, 0) i 1) (mSet M 21 i 0 (nI m)) := fun i' hi' hr' => by
    rw [gI1]
    by_cases q : i' = i
    · subst q
      rw [if_pos ⟨rfl, rfl⟩, mSet_eq, decide_eq_true hm]; rfl
    · rw [if_neg (fun z => q z.2), mSet_ne (fun z => q z.2.1)]
      exact d13 i' hi' hr'
  have e14 : C8 G (gI S (37, 0, 0) i (nI m)) (mSet M 21 i 0 (nI m)) 37 21 (mPb (mSet M 21 i 0 (nI m))) := d14.set (fun i' _ hne q => ⟨q.1, by have z : (mSet M 21 i 0 (nI m)).1 21 i' 0 ≠ -1 := q.2; rw [mSet_ne (fun y => hne y.2.1)] at z; exact z⟩)
  have e11 : C8 G (gI S (44, 0, 0) i (nI m)) (mSet M 22 i 0 (nI m)) 44 22 (mRn M) := d11.set (fun _ _ _ q => q)
  have e9 : C8 G (gI S (40, 0, 0) i nb) (mSet M 20 i 0 nb) 40 20 (mRn M) := d9.set (fun _ _ _ q => q)
  have e15 : C8 G (gI S (38, 0, 0) i 0) (mSet M 23 i 0 0) 38 23 (mPb (mSet M 21 i 0 (nI m))) := d15.set (fun i' _ hne q => ⟨q.1, by have z : (mSet M 21 i 0 (nI m)).1 21 i' 0 ≠ -1 := q.2; rw [mSet_ne (fun y => hne y.2.1)] at z; exact z⟩)
  have e16 : C8 G (gI S (39, 0, 0) i 0) (mSet M 24 i 0 0) 39 24 (mPb (mSet M 21 i 0 (nI m))) := d16.set (fun i' _ hne q => ⟨q.1, by have z : (mSet M 21 i 0 (nI m)).1 21 i' 0 ≠ -1 := q.2; rw [mSet_ne (fun y => hne y.2.1)] at z; exact z⟩)
  have e17 : C8 G (gI S (42, 0, 0) i 0) (mSet M 25 i 0 0) 42 25 (mPb (mSet M 21 i 0 (nI m))) := d17.set (fun i' _ hne q => ⟨q.1, by have z : (mSet M 21 i 0 (nI m)).1 21 i' 0 ≠ -1 := q.2; rw [mSet_ne (fun y => hne y.2.1)] at z; exact z⟩)
  have e18 : C8 G (gI S (43, 0, 0) i 0) (mSet M 26 i 0 0) 43 26 (mPb (mSet M 21 i 0 (nI m))) := d18.set (fun i' _ hne q => ⟨q.1, by have z : (mSet M 21 i 0 (nI m)).1 21 i' 0 ≠ -1 := q.2; rw [mSet_ne (fun y => hne y.2.1)] at z; exact z⟩)
  exact ⟨⟨d0, d1, d2, d3, d4, d5, d6, d7, d8, e9, d10, e11, d12, e13, e14, e15, e16, e17, e18, d19, d20, d21, d22, d23, d24, d25, d26⟩, ((((((((gFc.I (by simp)).tr (gFc.I (by simp))).tr (gFc.I (by simp))).tr (gFc.I (by simp))).tr (gFc.I (by simp))).tr (gFc.I (by simp))).tr (gFc.I (by simp))).tr (gFc.I (by simp)))⟩
theorem DR.stop {G : gG} {M : mM} {ow : Nat → Bool} {S : gS} (h : DR G M ow S) {i : Nat} (v : Int32) : DR G (mSet (mSet (mSet (mSet M 21 i 0 (-1)) 23 i 0 0) 24 i 0 0) 19 i 0 v) ow (gI (gI S (36, 0, 0) i 0) (41, 0, 0) i v) ∧ gFc S (gI (gI S (36, 0, 0) i 0) (41, 0, 0) i v) := by
  obtain ⟨d0, d1, d2, d3, d4, d5, d6, d7, d8, d9, d10, d11, d12, d13, d14, d15, d16, d17, d18, d19, d20, d21, d22, d23, d24, d25, d26⟩ := h
  have e13 : DPb G (gI S (36, 0, 0) i 0) (mSet M 21 i 0 (-1)) := fun i' hi' hr' => by
    rw [gI1]
    by_cases q : i' = i
    · subst q
      rw [if_pos ⟨rfl, rfl⟩, mSet_eq, decide_eq_false (fun z => z rfl)]; rfl
    · rw [if_neg (fun z => q z.2), mSet_ne (fun z => q z.2.1)]
      exact d13 i' hi' hr'
  have hp : ∀ i', mPb (mSet M 21 i 0 (-1)) i' → i' ≠ i ∧ mPb M i' := fun i' q => by
    have hne : i' ≠ i := fun z => by
      have q2 := q.2
      rw [z, mSet_eq] at q2
      exact q2 rfl
    have q2 := q.2
    rw [mSet_ne (fun y => hne y.2.1)] at q2
    exact ⟨hne, q.1, q2⟩
  have e14 : C8 G S (mSet M 21 i 0 (-1)) 37 21 (mPb (mSet M 21 i 0 (-1))) := fun i' hi' q => by
    rw [mSet_ne (fun y => (hp i' q).1 y.2.1)]; exact d14 i' hi' (hp i' q).2
  have e15 : C8 G S (mSet M 23 i 0 0) 38 23 (mPb (mSet M 21 i 0 (-1))) := fun i' hi' q => by
    rw [mSet_ne (fun y => (hp i' q).1 y.2.1)]; exact d15 i' hi' (hp i' q).2
  have e16 : C8 G S (mSet M 24 i 0 0) 39 24 (mPb (mSet M 21 i 0 (-1))) := fun i' hi' q => by
    rw [mSet_ne (fun y => (hp i' q).1 y.2.1)]; exact d16 i' hi' (hp i' q).2
  have e17 : C8 G S M 42 25 (mPb (mSet M 21 i 0 (-1))) := fun i' hi' q => d17 i' hi' (hp i' q).2
  have e18 : C8 G S M 43 26 (mPb (mSet M 21 i 0 (-1))) := fun i' hi' q => d18 i' hi' (hp i' q).2
  have e10 : C8 G (gI S (41, 0, 0) i v) (mSet M 19 i 0 v) 41 19 (mRn M) := d10.set (fun _ _ _ q => q)
  exact ⟨⟨d0, d1, d2, d3, d4, d5, d6, d7, d8, d9, e10, d11, d12, e13, e14, e15, e16, e17, e18, d19, d20, d21, d22, d23, d24, d25, d26⟩, (gFc.I (by simp)).tr (gFc.I (by simp))⟩
def mBegP (n : Nat) (M : mM) (i b : Nat) : mM := match mNext n b (mOkS M i 2) with
  | none => mSet M 19 i 0 3
  | some m => mProbe n M i m
theorem gc_Z_begin {G : gG} {la : Launch} {M : mM} {ow : Nat → Bool} {S : gS} {i b : Nat} (hi : i < G.1) (h : DR G M ow S) (hrun : mRn M i) (how : ow i = false) (hV : mVt G.1 M i) (hb : b < G.1) (eb : M.1 22 i 0 = nI b) : gM G la qy_Z_begin qw_Z_begin 3 0 0 (gTt G) (gTt G) [.inr (some (20, 0, 0)), .inl (nI i)] S (fun v S' => v = none ∧ DR G (mBegP G.1 M i b) ow S' ∧ gFc S S') := by
  refine gM_of (cc := qc_Z_begin) (maxL := 3) (by decide) rfl (Nat.le_of_ble_eq_true rfl) ?_
  intro E cx hr hnm hcz hsz hEl
  subst hEl
  have hD := h
  obtain ⟨d0, d1, d2, d3, d4, d5, d6, d7, d8, d9, d10, d11, d12, d13, d14, d15, d16, d17, d18, d19, d20, d21, d22, d23, d24, d25, d26⟩ := h
  have h8 := d1.1
  have hst := d0
  have e44 := (d11 i hi hrun).trans eb
  have e40 := d9 i hi hrun
  have en : mNext G.1 b (zOk M i (-1) true) = mNext G.1 b (mOkS M i 2) := mNextF_congr (by omega) (fun m hm => zOk_2 h8 hV hm)
  unfold mBegP
  refine gz_aload_n (pc := 0) cx qd_Z_begin_0 rfl rfl ?_
  refine gz_iload_n (pc := 1) cx qd_Z_begin_1 rfl rfl ?_
  refine gz_aload_n (pc := 2) cx qd_Z_begin_2 rfl rfl ?_
  refine gz_getR (pc := 3) cx qf_Z_80 qd_Z_begin_3 gm_Z rfl rfl (hst _ _ _ rfl) ?_
  refine gz_iload_n (pc := 6) cx qd_Z_begin_6 rfl rfl ?_
  refine gz_ialoadV (pc := 7) cx qd_Z_begin_7 (gm_za (by decide) (by decide)) rfl e44 rfl (by omega) (by decide) ?_
  refine gz_iconst (v := -1) (pc := 8) cx qd_Z_begin_8 (by decide) ?_
  refine gz_iconst (v := 1) (pc := 9) cx qd_Z_begin_9 (by decide) ?_
  refine gz_callV (pc := 10) cx qv_Z_153 qd_Z_begin_10 (gc_Z_nextOf (b := b) (oth := -1) (sus := true) hi hb hD hrun how) (by decide) rfl gm_Z rfl rfl rfl rfl (Nat.le_of_ble_eq_true rfl) ⟨Nat.zero_le _, Nat.zero_le _⟩ ?_
  rintro _ _ ⟨rfl, rfl⟩
  rw [en]
  cases hn : mNext G.1 b (mOkS M i 2) with
  | none =>
    refine gz_istore_n (pc := 13) cx qd_Z_begin_13 rfl (Nat.le_of_ble_eq_true rfl) ?_
    refine gz_iload_n (pc := 14) cx qd_Z_begin_14 rfl rfl ?_
    refine gz_if_ge (tgt := 26) (pc := 15) cx qd_Z_begin_15 (by decide) (fun h15 => absurd h15 (by decide)) (fun _ => ?_)
    refine gz_aload_n (pc := 18) cx qd_Z_begin_18 rfl rfl ?_
    refine gz_getR (pc := 19) cx qf_Z_71 qd_Z_begin_19 gm_Z rfl rfl (hst _ _ _ rfl) ?_
    refine gz_iload_n (pc := 22) cx qd_Z_begin_22 rfl rfl ?_
    refine gz_iconst (v := 3) (pc := 23) cx qd_Z_begin_23 (by decide) ?_
    refine gz_iastore (pc := 24) cx qd_Z_begin_24 (gm_za (by decide) (by decide)) rfl rfl (by omega) (by decide) ?_
    refine gz_return (pc := 25) cx hr qd_Z_begin_25 ?_
    obtain ⟨c1, f1⟩ := hD.f19 (i := i) 3
    exact ⟨rfl, c1, f1⟩
  | some m =>
    have hmn := (mNextF_lt (by omega) hn).1
    obtain ⟨c1, f1⟩ := hD.prb (i := i) (isN_ne h8 hmn) (M.1 20 i 0 + 1)
    refine gz_istore_n (pc := 13) cx qd_Z_begin_13 rfl (Nat.le_of_ble_eq_true rfl) ?_
    refine gz_iload_n (pc := 14) cx qd_Z_begin_14 rfl rfl ?_
    refine gz_if_ge (tgt := 26) (pc := 15) cx qd_Z_begin_15 (by decide) (fun _ => ?_) (fun h15 => absurd (nI_pos' (by omega)) h15)
    refine gz_aload_n (pc := 26) cx qd_Z_begin_26 rfl rfl ?_
    refine gz_getR (pc := 27) cx qf_Z_56 qd_Z_begin_27 gm_Z rfl rfl (hst _ _ _ rfl) ?_
    refine gz_iload_n (pc := 30) cx qd_Z_begin_30 rfl rfl ?_
    refine gz_iconst (v := 1) (pc := 31) cx qd_Z_begin_31 (by decide) ?_
    refine gz_zastore (pc := 32) cx qd_Z_begin_32 (gm_za (by decide) (by decide)) rfl (by decide) rfl (by omega) (by decide) ?_
    refine gz_aload_n (pc := 33) cx qd_Z_begin_33 rfl rfl ?_
    refine gz_getR (pc := 34) cx qf_Z_80 qd_Z_begin_34 gm_Z rfl rfl (hst _ _ _ rfl) ?_
    refine gz_iload_n (pc := 37) cx qd_Z_begin_37 rfl rfl ?_
    refine gz_iload_n (pc := 38) cx qd_Z_begin_38 rfl rfl ?_
    refine gz_iastore (pc := 39) cx qd_Z_begin_39 (gm_za (by decide) (by decide)) rfl rfl (by omega) (by decide) ?_
    refine gz_aload_n (pc := 40) cx qd_Z_begin_40 rfl rfl ?_
    refine gz_getR (pc := 41) cx qf_Z_59 qd_Z_begin_41 gm_Z rfl rfl (hst _ _ _ rfl) ?_
    refine gz_iload_n (pc := 44) cx qd_Z_begin_44 rfl rfl ?_
    refine gz_iload_n (pc := 45) cx qd_Z_begin_45 rfl rfl ?_
    refine gz_iastore (pc := 46) cx qd_Z_begin_46 (gm_za (by decide) (by decide)) rfl rfl (by omega) (by decide) ?_
    refine gz_aload_n (pc := 47) cx qd_Z_begin_47 rfl rfl ?_
    refine gz_getR (pc := 48) cx qf_Z_62 qd_Z_begin_48 gm_Z rfl rfl (hst _ _ _ rfl) ?_
    refine gz_iload_n (pc := 51) cx qd_Z_begin_51 rfl rfl ?_
    refine gz_iconst (v := 0) (pc := 52) cx qd_Z_begin_52 (by decide) ?_
    refine gz_iastore (pc := 53) cx qd_Z_begin_53 (gm_za (by decide) (by decide)) rfl rfl (by omega) (by decide) ?_
    refine gz_aload_n (pc := 54) cx qd_Z_begin_54 rfl rfl ?_
    refine gz_getR (pc := 55) cx qf_Z_65 qd_Z_begin_55 gm_Z rfl rfl (hst _ _ _ rfl) ?_
    refine gz_iload_n (pc := 58) cx qd_Z_begin_58 rfl rfl ?_
    refine gz_iconst (v := 0) (pc := 59) cx qd_Z_begin_59 (by decide) ?_
    refine gz_zastore (pc := 60) cx qd_Z_begin_60 (gm_za (by decide) (by decide)) rfl (by decide) rfl (by omega) (by decide) ?_
    refine gz_aload_n (pc := 61) cx qd_Z_begin_61 rfl rfl ?_
    refine gz_getR (pc := 62) cx qf_Z_74 qd_Z_begin_62 gm_Z rfl rfl (hst _ _ _ rfl) ?_
    refine gz_iload_n (pc := 65) cx qd_Z_begin_65 rfl rfl ?_
    refine gz_iconst (v := 0) (pc := 66) cx qd_Z_begin_66 (by decide) ?_
    refine gz_iastore (pc := 67) cx qd_Z_begin_67 (gm_za (by decide) (by decide)) rfl rfl (by omega) (by decide) ?_
    refine gz_aload_n (pc := 68) cx qd_Z_begin_68 rfl rfl ?_
    refine gz_getR (pc := 69) cx qf_Z_77 qd_Z_begin_69 gm_Z rfl rfl (hst _ _ _ rfl) ?_
    refine gz_iload_n (pc := 72) cx qd_Z_begin_72 rfl rfl ?_
    refine gz_iconst (v := 0) (pc := 73) cx qd_Z_begin_73 (by decide) ?_
    refine gz_iastore (pc := 74) cx qd_Z_begin_74 (gm_za (by decide) (by decide)) rfl rfl (by omega) (by decide) ?_
    refine gz_aload_n (pc := 75) cx qd_Z_begin_75 rfl rfl ?_
    refine gz_getR (pc := 76) cx qf_Z_68 qd_Z_begin_76 gm_Z rfl rfl (hst _ _ _ rfl) ?_
    refine gz_iload_n (pc := 79) cx qd_Z_begin_79 rfl rfl ?_
    refine gz_dup2 (pc := 80) cx qd_Z_begin_80 ?_
    refine gz_ialoadV (pc := 81) cx qd_Z_begin_81 (gm_za (by decide) (by decide)) rfl (show _ = M.1 20 i 0 from e40) rfl (by omega) (by decide) ?_
    refine gz_iconst (v := 1) (pc := 82) cx qd_Z_begin_82 (by decide) ?_
    refine gz_iadd (pc := 83) cx qd_Z_begin_83 ?_
    refine gz_iastore (pc := 84) cx qd_Z_begin_84 (gm_za (by decide) (by decide)) rfl rfl (by omega) (by decide) ?_
    refine gz_aload_n (pc := 85) cx qd_Z_begin_85 rfl rfl ?_
    refine gz_iconst (v := 1) (pc := 86) cx qd_Z_begin_86 (by decide) ?_
    refine gz_iload_n (pc := 87) cx qd_Z_begin_87 rfl rfl ?_
    refine gz_iload_n (pc := 88) cx qd_Z_begin_88 rfl rfl ?_
    refine gz_aload_n (pc := 89) cx qd_Z_begin_89 rfl rfl ?_
    refine gz_getR (pc := 90) cx qf_Z_68 qd_Z_begin_90 gm_Z rfl rfl (hst _ _ _ rfl) ?_
    refine gz_iload_n (pc := 93) cx qd_Z_begin_93 rfl rfl ?_
    refine gz_ialoadV (pc := 94) cx qd_Z_begin_94 (gm_za (by decide) (by decide)) rfl (show _ = M.1 20 i 0 + 1 by rw [gI1, if_pos ⟨rfl, rfl⟩]) rfl (by omega) (by decide) ?_
    refine gz_iload_n (pc := 95) cx qd_Z_begin_95 rfl rfl ?_
    refine gz_iload_n (pc := 96) cx qd_Z_begin_96 rfl rfl ?_
    refine gz_callV (pc := 97) cx qv_Z_123 qd_Z_begin_97 (gc_zsend hi c1 hrun (Or.inr (by decide)) (fun q => absurd q (by decide)) hV.pos hV.st0) (by decide) rfl gm_Z rfl rfl rfl rfl (Nat.le_of_ble_eq_true rfl) ⟨Nat.zero_le _, Nat.zero_le _⟩ ?_
    rintro _ S2 ⟨rfl, c2, f2⟩
    refine gz_return (pc := 100) cx hr qd_Z_begin_100 ?_
    exact ⟨rfl, c2, f1.tr f2⟩
def aCs (n t : Nat) (ok : Nat → Bool) (rem k : Nat) : List Nat := ((List.range' k rem).map (fun k => (t + k) % n)).filter ok
theorem aCs_s {n t : Nat} {ok : Nat → Bool} {rem k : Nat} : aCs n t ok (rem + 1) k = if ok ((t + k) % n) then (t + k) % n :: aCs n t ok rem (k + 1) else aCs n t ok rem (k + 1) := by
  unfold aCs
  rw [List.range'_succ, List.map_cons, List.filter_cons]
def aD (n t : Nat) (ok : Nat → Bool) : Bool := match aCs n t ok (n - 1) 1 with
  | [] => decide (mNext n t (fun j => ok j && !decide (j = t)) = none)
  | [a] => decide (mNext n t (fun j => ok j && !decide (j = t)) = some a ∧ mNext n a (fun j => ok j && !decide (j = t)) = some a)
  | a :: b :: _ => decide (a ≠ b ∧ mNext n t (fun j => ok j && !decide (j = t)) = some a ∧ mNext n a (fun j => ok j && !decide (j = t)) = some b)
theorem aD_all : ∀ n, n < 9 → 2 ≤ n → ∀ t, t < n → ∀ b0 b1 b2 b3 b4 b5 b6 b7 : Bool, aD n t (fun j => [b0, b1, b2, b3, b4, b5, b6, b7].getD j false) = true := by decide +kernel
theorem aD_of {n t : Nat} {ok : Nat → Bool} (h2 : 2 ≤ n) (h8 : n ≤ 8) (ht : t < n) : aD n t ok = true := by
  have h := aD_all n (by omega) h2 t ht (ok 0) (ok 1) (ok 2) (ok 3) (ok 4) (ok 5) (ok 6) (ok 7)
  have e : ∀ j, j < n → (fun j => [ok 0, ok 1, ok 2, ok 3, ok 4, ok 5, ok 6, ok 7].getD j false) j = ok j := by
    intro j hj
    match j, hj with
    | 0, _ => rfl
    | 1, _ => rfl
    | 2, _ => rfl
    | 3, _ => rfl
    | 4, _ => rfl
    | 5, _ => rfl
    | 6, _ => rfl
    | 7, _ => rfl
    | j + 8, hj => exact absurd hj (by omega)
  generalize (fun j => [ok 0, ok 1, ok 2, ok 3, ok 4, ok 5, ok 6, ok 7].getD j false) = ok' at h e
  have ec : ∀ rem k, aCs n t ok' rem k = aCs n t ok rem k := fun rem k => by
    unfold aCs
    apply List.filter_congr
    intro x hx
    obtain ⟨y, _, rfl⟩ := List.mem_map.mp hx
    exact e _ (Nat.mod_lt _ (by omega))
  have em : ∀ b, mNext n b (fun j => ok' j && !decide (j = t)) = mNext n b (fun j => ok j && !decide (j = t)) := fun b => mNextF_congr (by omega) (fun m hm => by show (ok' m && _) = (ok m && _); rw [e m hm])
  unfold aD at h ⊢
  rw [ec] at h
  simp only [em] at h
  exact h
def aOk (M : mM) (i j : Nat) : Bool := decide (j ≠ i ∧ M.1 0 i j = 1)
def aSt (n i : Nat) (M : mM) (m : Nat) : mM := mSet (mSend n M 3 i (nI m) (M.1 20 i 0) (nI i) (M.1 21 i 0)) 25 i 0 (M.1 25 i 0 + 1)
def aL (n i : Nat) : List Nat → mM → mM
  | [], M => M
  | m :: l, M => aL n i l (aSt n i M m)
theorem aSt_1 {n i : Nat} {M : mM} {m f i' j : Nat} (h4 : f ≠ 4) (h25 : f ≠ 25) : (aSt n i M m).1 f i' j = M.1 f i' j := by
  unfold aSt
  rw [mSet_ne (by omega), mSend_1 h4]
theorem mAskF_L {n i t : Nat} (ht : t < 2 ^ 31) : ∀ (rem k : Nat) (M : mM) (a : Nat), a ≤ 2 → M.1 25 i 0 = nI a → M.1 21 i 0 = nI t → mAskF n i rem k M = aL n i ((aCs n t (aOk M i) rem k).take (2 - a)) M
  | 0, k, M, a, _, _, _ => by
    unfold aCs
    rw [List.range'_zero, List.map_nil, List.filter_nil, List.take_nil]; rfl
  | rem + 1, k, M, a, ha, e25, e21 => by
    rw [mAskF, e25]
    have hc : (2 ≤ nI a) ↔ 2 ≤ a := nI_leI (a := 2) (by decide) (by omega)
    by_cases q : 2 ≤ a
    · rw [if_pos (hc.mpr q), show 2 - a = 0 by omega, List.take_zero]; rfl
    · rw [if_neg (fun z => q (hc.mp z)), aCs_s, e21, nI_clamp ht]
      by_cases o : (t + k) % n ≠ i ∧ M.1 0 i ((t + k) % n) = 1
      · have eo : aOk M i ((t + k) % n) = true := decide_eq_true o
        have e2 : 2 - a = 2 - (a + 1) + 1 := by omega
        rw [if_pos o, if_pos eo, e2, List.take_succ_cons]
        have eM : mSet (mSend n M 3 i (nI ((t + k) % n)) (M.1 20 i 0) (nI i) (nI t)) 25 i 0 (nI a + 1) = aSt n i M ((t + k) % n) := by
          unfold aSt; rw [e25, e21]
        rw [eM]
        have eOk : aOk (aSt n i M ((t + k) % n)) i = aOk M i := by
          funext j; unfold aOk; rw [aSt_1 (by decide) (by decide)]
        rw [mAskF_L ht rem (k + 1) (aSt n i M ((t + k) % n)) (a + 1) (by omega) (by unfold aSt; rw [mSet_eq, e25, nI_1]) (by rw [aSt_1 (by decide) (by decide), e21]), eOk]
        rfl
      · have eo : ¬ aOk M i ((t + k) % n) = true := fun z => o (of_decide_eq_true z)
        rw [if_neg o, if_neg eo]
        exact mAskF_L ht rem (k + 1) M a ha e25 e21
theorem mPush_set {M : mM} {f i j : Nat} {v : Int32} {m : List Int32} : mPush (mSet M f i j v) m = mSet (mPush M m) f i j v := by
  unfold mPush
  by_cases e : M.2.2.length = 60
  · rw [if_pos e]; exact if_pos e
  · rw [if_neg e]; exact if_neg e
theorem mSend_set {n : Nat} {M : mM} {f a j : Nat} {v : Int32} {kind to no o g : Int32} {i : Nat} (hf : 5 ≤ f) : mSend n (mSet M f a j v) kind i to no o g = mSet (mSend n M kind i to no o g) f a j v := by
  have e0 : ∀ m, (mSet M f a j v).1 0 i m = M.1 0 i m := fun m => mSet_ne (by omega)
  have e1 : ∀ m, (mSet M f a j v).1 1 i m = M.1 1 i m := fun m => mSet_ne (by omega)
  have e4 : (mSet M f a j v).1 4 i = M.1 4 i := funext fun m => mSet_ne (by omega)
  have en : ∀ l, mNews (mSet M f a j v) i l = mNews M i l := fun l => by unfold mNews; simp only [e0, e1]
  have et : mTable n (mSet M f a j v) i = mTable n M i := by unfold mTable; simp only [e0]
  have ep : mPk n (mSet M f a j v) i = mPk n M i := by unfold mPk; rw [e4]
  unfold mSend
  by_cases e : kind = 6 ∨ kind = 7
  · rw [if_pos e, if_pos e, en, et, mPush_set]
  · rw [if_neg e, if_neg e, en, ep, ← mPush_set]
    congr 1
    refine mM_ext (fun f2 i2 j2 => ?_) rfl
    show (if _ then _ else _) = (if _ then _ else _)
    by_cases q : f2 = 4 ∧ i2 = i ∧ j2 ∈ mPk n M i
    · rw [if_pos q, if_neg (by omega), e4]
      exact (if_pos q).symm
    · rw [if_neg q]
      show (if _ then _ else _) = (if _ then _ else _)
      by_cases q2 : f2 = f ∧ i2 = a ∧ j2 = j
      · rw [if_pos q2, if_pos q2]
      · rw [if_neg q2, if_neg q2]; exact (if_neg q).symm
theorem mSet_set {M : mM} {f i j : Nat} {v w : Int32} : mSet (mSet M f i j v) f i j w = mSet M f i j w := by
  refine mM_ext (fun f2 i2 j2 => ?_) rfl
  simp only [mSet]
  split <;> rfl
theorem gc_Z_askOthers {G : gG} {la : Launch} {M : mM} {ow : Nat → Bool} {S : gS} {i t : Nat} (hi : i < G.1) (h : DR G M ow S) (hrun : mRn M i) (how : ow i = false) (hV : mVt G.1 M i) (ht : t < G.1) (et : M.1 21 i 0 = nI t) (e25 : M.1 25 i 0 = 0) : gM G la qy_Z_askOthers qw_Z_askOthers 3 0 0 (gTt G) (gTt G) [.inr (some (20, 0, 0)), .inl (nI i)] S (fun v S' => v = none ∧ DR G (mAskF G.1 i (G.1 - 1) 1 M) ow S' ∧ gFc S S') := by
  refine gM_of (cc := qc_Z_askOthers) (maxL := 4) (by decide) rfl (Nat.le_of_ble_eq_true rfl) ?_
  intro E cx hr hnm hcz hsz hEl
  subst hEl
  have hD := h
  obtain ⟨d0, d1, d2, d3, d4, d5, d6, d7, d8, d9, d10, d11, d12, d13, d14, d15, d16, d17, d18, d19, d20, d21, d22, d23, d24, d25, d26⟩ := h
  have h8 := d1.1
  have h2 := d1.2
  have hst := d0
  have hpb : mPb M i := ⟨hrun, by rw [et]; exact isN_ne h8 ht⟩
  have e37 := (d14 i hi hpb).trans et
  have e40 := d9 i hi hrun
  have ez : ∀ b, mNext G.1 b (zOk M i (nI t) false) = mNext G.1 b (fun j => aOk M i j && !decide (j = t)) := fun b => mNextF_congr (by omega) (fun m hm => by
    have e : nI m ≠ nI t ↔ ¬ m = t := not_congr (nI_eq (by omega) (by omega))
    show zOk M i (nI t) false m = (aOk M i m && !decide (m = t))
    unfold zOk aOk
    rw [Bool.eq_iff_iff, Bool.and_eq_true, decide_eq_true_iff, decide_eq_true_iff, Bool.not_eq_true', decide_eq_false_iff_not, e]
    constructor
    · rintro ⟨a, b, c⟩
      exact ⟨⟨a, c.elim id (fun z => absurd z.1 (by decide))⟩, b⟩
    · rintro ⟨⟨a, c⟩, b⟩
      exact ⟨a, b, Or.inl c⟩)
  have hA := aD_of (n := G.1) (t := t) (ok := aOk M i) h2 h8 ht
  rw [mAskF_L (t := t) (by omega) (G.1 - 1) 1 M 0 (by decide) e25 et]
  unfold aD at hA
  have lt : ∀ a b, mNext G.1 b (fun j => aOk M i j && !decide (j = t)) = some a → a < G.1 := fun a b q => (mNextF_lt (by omega) q).1
  cases hL : aCs G.1 t (aOk M i) (G.1 - 1) 1 with
  | nil =>
    rw [hL] at hA
    have q1 := of_decide_eq_true hA
    refine gz_aload_n (pc := 0) cx qd_Z_askOthers_0 rfl rfl ?_
    refine gz_iload_n (pc := 1) cx qd_Z_askOthers_1 rfl rfl ?_
    refine gz_aload_n (pc := 2) cx qd_Z_askOthers_2 rfl rfl ?_
    refine gz_getR (pc := 3) cx qf_Z_59 qd_Z_askOthers_3 gm_Z rfl rfl (hst _ _ _ rfl) ?_
    refine gz_iload_n (pc := 6) cx qd_Z_askOthers_6 rfl rfl ?_
    refine gz_ialoadV (pc := 7) cx qd_Z_askOthers_7 (gm_za (by decide) (by decide)) rfl e37 rfl (by omega) (by decide) ?_
    refine gz_aload_n (pc := 8) cx qd_Z_askOthers_8 rfl rfl ?_
    refine gz_getR (pc := 9) cx qf_Z_59 qd_Z_askOthers_9 gm_Z rfl rfl (hst _ _ _ rfl) ?_
    refine gz_iload_n (pc := 12) cx qd_Z_askOthers_12 rfl rfl ?_
    refine gz_ialoadV (pc := 13) cx qd_Z_askOthers_13 (gm_za (by decide) (by decide)) rfl e37 rfl (by omega) (by decide) ?_
    refine gz_iconst (v := 0) (pc := 14) cx qd_Z_askOthers_14 (by decide) ?_
    refine gz_callV (pc := 15) cx qv_Z_153 qd_Z_askOthers_15 (gc_Z_nextOf (b := t) (oth := nI t) (sus := false) hi ht hD hrun how) (by decide) rfl gm_Z rfl rfl rfl rfl (Nat.le_of_ble_eq_true rfl) ⟨Nat.zero_le _, Nat.zero_le _⟩ ?_
    rintro _ _ ⟨rfl, rfl⟩
    rw [ez]
    rw [q1]
    refine gz_istore_n (pc := 18) cx qd_Z_askOthers_18 rfl (Nat.le_of_ble_eq_true rfl) ?_
    refine gz_iload_n (pc := 19) cx qd_Z_askOthers_19 rfl rfl ?_
    refine gz_if_ge (tgt := 24) (pc := 20) cx qd_Z_askOthers_20 (by decide) (fun h20 => absurd h20 (by decide)) (fun _ => ?_)
    refine gz_return (pc := 23) cx hr qd_Z_askOthers_23 ?_
    exact ⟨rfl, hD, gFc.rf⟩
  | cons a l =>
    cases l with
    | nil =>
      rw [hL] at hA
      obtain ⟨q1, q2⟩ := of_decide_eq_true hA
      have ha := lt _ _ q1
      obtain ⟨c1, f1⟩ := hD.f25 (i := i) 1
      refine gz_aload_n (pc := 0) cx qd_Z_askOthers_0 rfl rfl ?_
      refine gz_iload_n (pc := 1) cx qd_Z_askOthers_1 rfl rfl ?_
      refine gz_aload_n (pc := 2) cx qd_Z_askOthers_2 rfl rfl ?_
      refine gz_getR (pc := 3) cx qf_Z_59 qd_Z_askOthers_3 gm_Z rfl rfl (hst _ _ _ rfl) ?_
      refine gz_iload_n (pc := 6) cx qd_Z_askOthers_6 rfl rfl ?_
      refine gz_ialoadV (pc := 7) cx qd_Z_askOthers_7 (gm_za (by decide) (by decide)) rfl e37 rfl (by omega) (by decide) ?_
      refine gz_aload_n (pc := 8) cx qd_Z_askOthers_8 rfl rfl ?_
      refine gz_getR (pc := 9) cx qf_Z_59 qd_Z_askOthers_9 gm_Z rfl rfl (hst _ _ _ rfl) ?_
      refine gz_iload_n (pc := 12) cx qd_Z_askOthers_12 rfl rfl ?_
      refine gz_ialoadV (pc := 13) cx qd_Z_askOthers_13 (gm_za (by decide) (by decide)) rfl e37 rfl (by omega) (by decide) ?_
      refine gz_iconst (v := 0) (pc := 14) cx qd_Z_askOthers_14 (by decide) ?_
      refine gz_callV (pc := 15) cx qv_Z_153 qd_Z_askOthers_15 (gc_Z_nextOf (b := t) (oth := nI t) (sus := false) hi ht hD hrun how) (by decide) rfl gm_Z rfl rfl rfl rfl (Nat.le_of_ble_eq_true rfl) ⟨Nat.zero_le _, Nat.zero_le _⟩ ?_
      rintro _ _ ⟨rfl, rfl⟩
      rw [ez]
      rw [q1]
      refine gz_istore_n (pc := 18) cx qd_Z_askOthers_18 rfl (Nat.le_of_ble_eq_true rfl) ?_
      refine gz_iload_n (pc := 19) cx qd_Z_askOthers_19 rfl rfl ?_
      refine gz_if_ge (tgt := 24) (pc := 20) cx qd_Z_askOthers_20 (by decide) (fun _ => ?_) (fun h20 => absurd (nI_pos' (by omega)) h20)
      refine gz_aload_n (pc := 24) cx qd_Z_askOthers_24 rfl rfl ?_
      refine gz_iload_n (pc := 25) cx qd_Z_askOthers_25 rfl rfl ?_
      refine gz_iload_n (pc := 26) cx qd_Z_askOthers_26 rfl rfl ?_
      refine gz_aload_n (pc := 27) cx qd_Z_askOthers_27 rfl rfl ?_
      refine gz_getR (pc := 28) cx qf_Z_59 qd_Z_askOthers_28 gm_Z rfl rfl (hst _ _ _ rfl) ?_
      refine gz_iload_n (pc := 31) cx qd_Z_askOthers_31 rfl rfl ?_
      refine gz_ialoadV (pc := 32) cx qd_Z_askOthers_32 (gm_za (by decide) (by decide)) rfl e37 rfl (by omega) (by decide) ?_
      refine gz_iconst (v := 0) (pc := 33) cx qd_Z_askOthers_33 (by decide) ?_
      refine gz_callV (pc := 34) cx qv_Z_153 qd_Z_askOthers_34 (gc_Z_nextOf (b := a) (oth := nI t) (sus := false) hi ha hD hrun how) (by decide) rfl gm_Z rfl rfl rfl rfl (Nat.le_of_ble_eq_true rfl) ⟨Nat.zero_le _, Nat.zero_le _⟩ ?_
      rintro _ _ ⟨rfl, rfl⟩
      rw [ez, q2]
      refine gz_istore_n (pc := 37) cx qd_Z_askOthers_37 rfl (Nat.le_of_ble_eq_true rfl) ?_
      refine gz_aload_n (pc := 38) cx qd_Z_askOthers_38 rfl rfl ?_
      refine gz_getR (pc := 39) cx qf_Z_74 qd_Z_askOthers_39 gm_Z rfl rfl (hst _ _ _ rfl) ?_
      refine gz_iload_n (pc := 42) cx qd_Z_askOthers_42 rfl rfl ?_
      refine gz_iload_n (pc := 43) cx qd_Z_askOthers_43 rfl rfl ?_
      refine gz_iload_n (pc := 44) cx qd_Z_askOthers_44 rfl rfl ?_
      refine gz_icmp_ne (tgt := 52) (pc := 45) cx qd_Z_askOthers_45 (by decide) (fun h45 => absurd rfl h45) (fun _ => ?_)
      refine gz_iconst (v := 1) (pc := 48) cx qd_Z_askOthers_48 (by decide) ?_
      refine gz_goto (tgt := 53) (pc := 49) cx qd_Z_askOthers_49 (by decide) ?_
      refine gz_iastore (pc := 53) cx qd_Z_askOthers_53 (gm_za (by decide) (by decide)) rfl rfl (by omega) (by decide) ?_
      refine gz_aload_n (pc := 54) cx qd_Z_askOthers_54 rfl rfl ?_
      refine gz_iconst (v := 3) (pc := 55) cx qd_Z_askOthers_55 (by decide) ?_
      refine gz_iload_n (pc := 56) cx qd_Z_askOthers_56 rfl rfl ?_
      refine gz_iload_n (pc := 57) cx qd_Z_askOthers_57 rfl rfl ?_
      refine gz_aload_n (pc := 58) cx qd_Z_askOthers_58 rfl rfl ?_
      refine gz_getR (pc := 59) cx qf_Z_68 qd_Z_askOthers_59 gm_Z rfl rfl (hst _ _ _ rfl) ?_
      refine gz_iload_n (pc := 62) cx qd_Z_askOthers_62 rfl rfl ?_
      refine gz_ialoadV (pc := 63) cx qd_Z_askOthers_63 (gm_za (by decide) (by decide)) rfl (show _ = M.1 20 i 0 from e40) rfl (by omega) (by decide) ?_
      refine gz_iload_n (pc := 64) cx qd_Z_askOthers_64 rfl rfl ?_
      refine gz_aload_n (pc := 65) cx qd_Z_askOthers_65 rfl rfl ?_
      refine gz_getR (pc := 66) cx qf_Z_59 qd_Z_askOthers_66 gm_Z rfl rfl (hst _ _ _ rfl) ?_
      refine gz_iload_n (pc := 69) cx qd_Z_askOthers_69 rfl rfl ?_
      refine gz_ialoadV (pc := 70) cx qd_Z_askOthers_70 (gm_za (by decide) (by decide)) rfl (show _ = nI t from e37) rfl (by omega) (by decide) ?_
      refine gz_callV (pc := 71) cx qv_Z_123 qd_Z_askOthers_71 (gc_zsend hi c1 hrun (Or.inr (by decide)) (fun q => absurd q (by decide)) hV.pos hV.st0) (by decide) rfl gm_Z rfl rfl rfl rfl (Nat.le_of_ble_eq_true rfl) ⟨Nat.zero_le _, Nat.zero_le _⟩ ?_
      rintro _ S2 ⟨rfl, c2, f2⟩
      refine gz_iload_n (pc := 74) cx qd_Z_askOthers_74 rfl rfl ?_
      refine gz_iload_n (pc := 75) cx qd_Z_askOthers_75 rfl rfl ?_
      refine gz_icmp_eq (tgt := 99) (pc := 76) cx qd_Z_askOthers_76 (by decide) (fun _ => ?_) (fun h76 => absurd rfl h76)
      refine gz_return (pc := 99) cx hr qd_Z_askOthers_99 ?_
      refine ⟨rfl, ?_, f1.tr f2⟩
      show DR G (aSt G.1 i M a) ow S2
      unfold aSt
      rw [mSend_set (by decide)] at c2
      rw [et, e25]
      exact c2
    | cons b l =>
      rw [hL] at hA
      obtain ⟨hab, q1, q2⟩ := of_decide_eq_true hA
      have ha := lt _ _ q1
      have hb := lt _ _ q2
      have hne : ¬ nI b = nI a := fun z => hab ((nI_eq (by omega) (by omega)).mp z).symm
      obtain ⟨c1, f1⟩ := hD.f25 (i := i) 2
      refine gz_aload_n (pc := 0) cx qd_Z_askOthers_0 rfl rfl ?_
      refine gz_iload_n (pc := 1) cx qd_Z_askOthers_1 rfl rfl ?_
      refine gz_aload_n (pc := 2) cx qd_Z_askOthers_2 rfl rfl ?_
      refine gz_getR (pc := 3) cx qf_Z_59 qd_Z_askOthers_3 gm_Z rfl rfl (hst _ _ _ rfl) ?_
      refine gz_iload_n (pc := 6) cx qd_Z_askOthers_6 rfl rfl ?_
      refine gz_ialoadV (pc := 7) cx qd_Z_askOthers_7 (gm_za (by decide) (by decide)) rfl e37 rfl (by omega) (by decide) ?_
      refine gz_aload_n (pc := 8) cx qd_Z_askOthers_8 rfl rfl ?_
      refine gz_getR (pc := 9) cx qf_Z_59 qd_Z_askOthers_9 gm_Z rfl rfl (hst _ _ _ rfl) ?_
      refine gz_iload_n (pc := 12) cx qd_Z_askOthers_12 rfl rfl ?_
      refine gz_ialoadV (pc := 13) cx qd_Z_askOthers_13 (gm_za (by decide) (by decide)) rfl e37 rfl (by omega) (by decide) ?_
      refine gz_iconst (v := 0) (pc := 14) cx qd_Z_askOthers_14 (by decide) ?_
      refine gz_callV (pc := 15) cx qv_Z_153 qd_Z_askOthers_15 (gc_Z_nextOf (b := t) (oth := nI t) (sus := false) hi ht hD hrun how) (by decide) rfl gm_Z rfl rfl rfl rfl (Nat.le_of_ble_eq_true rfl) ⟨Nat.zero_le _, Nat.zero_le _⟩ ?_
      rintro _ _ ⟨rfl, rfl⟩
      rw [ez]
      rw [q1]
      refine gz_istore_n (pc := 18) cx qd_Z_askOthers_18 rfl (Nat.le_of_ble_eq_true rfl) ?_
      refine gz_iload_n (pc := 19) cx qd_Z_askOthers_19 rfl rfl ?_
      refine gz_if_ge (tgt := 24) (pc := 20) cx qd_Z_askOthers_20 (by decide) (fun _ => ?_) (fun h20 => absurd (nI_pos' (by omega)) h20)
      refine gz_aload_n (pc := 24) cx qd_Z_askOthers_24 rfl rfl ?_
      refine gz_iload_n (pc := 25) cx qd_Z_askOthers_25 rfl rfl ?_
      refine gz_iload_n (pc := 26) cx qd_Z_askOthers_26 rfl rfl ?_
      refine gz_aload_n (pc := 27) cx qd_Z_askOthers_27 rfl rfl ?_
      refine gz_getR (pc := 28) cx qf_Z_59 qd_Z_askOthers_28 gm_Z rfl rfl (hst _ _ _ rfl) ?_
      refine gz_iload_n (pc := 31) cx qd_Z_askOthers_31 rfl rfl ?_
      refine gz_ialoadV (pc := 32) cx qd_Z_askOthers_32 (gm_za (by decide) (by decide)) rfl e37 rfl (by omega) (by decide) ?_
      refine gz_iconst (v := 0) (pc := 33) cx qd_Z_askOthers_33 (by decide) ?_
      refine gz_callV (pc := 34) cx qv_Z_153 qd_Z_askOthers_34 (gc_Z_nextOf (b := a) (oth := nI t) (sus := false) hi ha hD hrun how) (by decide) rfl gm_Z rfl rfl rfl rfl (Nat.le_of_ble_eq_true rfl) ⟨Nat.zero_le _, Nat.zero_le _⟩ ?_
      rintro _ _ ⟨rfl, rfl⟩
      rw [ez, q2]
      refine gz_istore_n (pc := 37) cx qd_Z_askOthers_37 rfl (Nat.le_of_ble_eq_true rfl) ?_
      refine gz_aload_n (pc := 38) cx qd_Z_askOthers_38 rfl rfl ?_
      refine gz_getR (pc := 39) cx qf_Z_74 qd_Z_askOthers_39 gm_Z rfl rfl (hst _ _ _ rfl) ?_
      refine gz_iload_n (pc := 42) cx qd_Z_askOthers_42 rfl rfl ?_
      refine gz_iload_n (pc := 43) cx qd_Z_askOthers_43 rfl rfl ?_
      refine gz_iload_n (pc := 44) cx qd_Z_askOthers_44 rfl rfl ?_
      refine gz_icmp_ne (tgt := 52) (pc := 45) cx qd_Z_askOthers_45 (by decide) (fun _ => ?_) (fun h45 => absurd h45 hne)
      refine gz_iconst (v := 2) (pc := 52) cx qd_Z_askOthers_52 (by decide) ?_
      refine gz_iastore (pc := 53) cx qd_Z_askOthers_53 (gm_za (by decide) (by decide)) rfl rfl (by omega) (by decide) ?_
      refine gz_aload_n (pc := 54) cx qd_Z_askOthers_54 rfl rfl ?_
      refine gz_iconst (v := 3) (pc := 55) cx qd_Z_askOthers_55 (by decide) ?_
      refine gz_iload_n (pc := 56) cx qd_Z_askOthers_56 rfl rfl ?_
      refine gz_iload_n (pc := 57) cx qd_Z_askOthers_57 rfl rfl ?_
      refine gz_aload_n (pc := 58) cx qd_Z_askOthers_58 rfl rfl ?_
      refine gz_getR (pc := 59) cx qf_Z_68 qd_Z_askOthers_59 gm_Z rfl rfl (hst _ _ _ rfl) ?_
      refine gz_iload_n (pc := 62) cx qd_Z_askOthers_62 rfl rfl ?_
      refine gz_ialoadV (pc := 63) cx qd_Z_askOthers_63 (gm_za (by decide) (by decide)) rfl (show _ = M.1 20 i 0 from e40) rfl (by omega) (by decide) ?_
      refine gz_iload_n (pc := 64) cx qd_Z_askOthers_64 rfl rfl ?_
      refine gz_aload_n (pc := 65) cx qd_Z_askOthers_65 rfl rfl ?_
      refine gz_getR (pc := 66) cx qf_Z_59 qd_Z_askOthers_66 gm_Z rfl rfl (hst _ _ _ rfl) ?_
      refine gz_iload_n (pc := 69) cx qd_Z_askOthers_69 rfl rfl ?_
      refine gz_ialoadV (pc := 70) cx qd_Z_askOthers_70 (gm_za (by decide) (by decide)) rfl (show _ = nI t from e37) rfl (by omega) (by decide) ?_
      refine gz_callV (pc := 71) cx qv_Z_123 qd_Z_askOthers_71 (gc_zsend hi c1 hrun (Or.inr (by decide)) (fun q => absurd q (by decide)) hV.pos hV.st0) (by decide) rfl gm_Z rfl rfl rfl rfl (Nat.le_of_ble_eq_true rfl) ⟨Nat.zero_le _, Nat.zero_le _⟩ ?_
      rintro _ S2 ⟨rfl, c2, f2⟩
      obtain ⟨x1, x2, x3, x4, x5, x6, x7, x8, x9, x10, x11, x12, x13, x14, x15, x16, x17, x18, x19, x20⟩ := c2
      have c2 : DR G (mSend G.1 (mSet M 25 i 0 2) 3 i (nI a) (M.1 20 i 0) (nI i) (nI t)) ow S2 := ⟨x1, x2, x3, x4, x5, x6, x7, x8, x9, x10, x11, x12, x13, x14, x15, x16, x17, x18, x19, x20⟩
      have hst2 := x1
      have y40 : S2.1 (40, 0, 0) i = M.1 20 i 0 := (x10 i hi (by unfold mRn; rw [mSend_1 (by decide)]; exact hrun)).trans ((mSend_1 (by decide)).trans rfl)
      have y37 : S2.1 (37, 0, 0) i = nI t := (x15 i hi ⟨by unfold mRn; rw [mSend_1 (by decide)]; exact hrun, by rw [mSend_1 (by decide)]; exact hpb.2⟩).trans ((mSend_1 (by decide)).trans et)
      have hV2 : mVt G.1 (mSend G.1 (mSet M 25 i 0 2) 3 i (nI a) (M.1 20 i 0) (nI i) (nI t)) i := (hV.set (f := 25) (i' := i) (j := 0) (v := 2) (by decide)).sent rfl
      refine gz_iload_n (pc := 74) cx qd_Z_askOthers_74 rfl rfl ?_
      refine gz_iload_n (pc := 75) cx qd_Z_askOthers_75 rfl rfl ?_
      refine gz_icmp_eq (tgt := 99) (pc := 76) cx qd_Z_askOthers_76 (by decide) (fun h76 => absurd h76 hne) (fun _ => ?_)
      refine gz_aload_n (pc := 79) cx qd_Z_askOthers_79 rfl rfl ?_
      refine gz_iconst (v := 3) (pc := 80) cx qd_Z_askOthers_80 (by decide) ?_
      refine gz_iload_n (pc := 81) cx qd_Z_askOthers_81 rfl rfl ?_
      refine gz_iload_n (pc := 82) cx qd_Z_askOthers_82 rfl rfl ?_
      refine gz_aload_n (pc := 83) cx qd_Z_askOthers_83 rfl rfl ?_
      refine gz_getR (pc := 84) cx qf_Z_68 qd_Z_askOthers_84 gm_Z rfl rfl (hst2 _ _ _ rfl) ?_
      refine gz_iload_n (pc := 87) cx qd_Z_askOthers_87 rfl rfl ?_
      refine gz_ialoadV (pc := 88) cx qd_Z_askOthers_88 (gm_za (by decide) (by decide)) rfl y40 rfl (by omega) (by decide) ?_
      refine gz_iload_n (pc := 89) cx qd_Z_askOthers_89 rfl rfl ?_
      refine gz_aload_n (pc := 90) cx qd_Z_askOthers_90 rfl rfl ?_
      refine gz_getR (pc := 91) cx qf_Z_59 qd_Z_askOthers_91 gm_Z rfl rfl (hst2 _ _ _ rfl) ?_
      refine gz_iload_n (pc := 94) cx qd_Z_askOthers_94 rfl rfl ?_
      refine gz_ialoadV (pc := 95) cx qd_Z_askOthers_95 (gm_za (by decide) (by decide)) rfl y37 rfl (by omega) (by decide) ?_
      refine gz_callV (pc := 96) cx qv_Z_123 qd_Z_askOthers_96 (gc_zsend hi c2 (by unfold mRn; rw [mSend_1 (by decide)]; exact hrun) (Or.inr (by decide)) (fun q => absurd q (by decide)) hV2.pos hV2.st0) (by decide) rfl gm_Z rfl rfl rfl rfl (Nat.le_of_ble_eq_true rfl) ⟨Nat.zero_le _, Nat.zero_le _⟩ ?_
      rintro _ S3 ⟨rfl, c3, f3⟩
      refine gz_return (pc := 99) cx hr qd_Z_askOthers_99 ?_
      refine ⟨rfl, ?_, (f1.tr f2).tr f3⟩
      show DR G (aSt G.1 i (aSt G.1 i M a) b) ow S3
      have e1 : aSt G.1 i (aSt G.1 i M a) b = mSend G.1 (mSend G.1 (mSet M 25 i 0 2) 3 i (nI a) (M.1 20 i 0) (nI i) (nI t)) 3 i (nI b) (M.1 20 i 0) (nI i) (nI t) := by
        have ex : (aSt G.1 i M a).1 25 i 0 + 1 = 2 := by
          unfold aSt; rw [mSet_eq, e25]; decide
        rw [mSend_set (by decide), mSend_set (by decide)]
        show mSet (mSend G.1 (aSt G.1 i M a) 3 i (nI b) ((aSt G.1 i M a).1 20 i 0) (nI i) ((aSt G.1 i M a).1 21 i 0)) 25 i 0 ((aSt G.1 i M a).1 25 i 0 + 1) = _
        rw [ex, aSt_1 (by decide) (by decide), aSt_1 (by decide) (by decide), et]
        unfold aSt
        rw [mSend_set (by decide), mSet_set, et]
      rw [e1]
      exact c3
