/-! single fields of the reference -/
theorem DR.f16 {G : gG} {M : mM} {ow : Nat → Bool} {S : gS} (h : DR G M ow S) {i : Nat} (v : Int32) : DR G (mSet M 16 i 0 v) ow (gI S (25, 0, 0) i v) ∧ gFc S (gI S (25, 0, 0) i v) := by
  obtain ⟨d0, d1, d2, d3, d4, d5, d6, d7, d8, d9, d10, d11, d12, d13, d14, d15, d16, d17, d18, d19, d20, d21, d22, d23, d24, d25, d26⟩ := h
  have e : C8 G (gI S (25, 0, 0) i v) (mSet M 16 i 0 v) 25 16 (mRn M) := d7.set (fun _ _ _ q => q)
  exact ⟨⟨d0, d1, d2, d3, d4, d5, d6, e, d8, d9, d10, d11, d12, d13, d14, d15, d16, d17, d18, d19, d20, d21, d22, d23, d24, d25, d26⟩, gFc.I (by simp)⟩
theorem DR.f20 {G : gG} {M : mM} {ow : Nat → Bool} {S : gS} (h : DR G M ow S) {i : Nat} (v : Int32) : DR G (mSet M 20 i 0 v) ow (gI S (40, 0, 0) i v) ∧ gFc S (gI S (40, 0, 0) i v) := by
  obtain ⟨d0, d1, d2, d3, d4, d5, d6, d7, d8, d9, d10, d11, d12, d13, d14, d15, d16, d17, d18, d19, d20, d21, d22, d23, d24, d25, d26⟩ := h
  have e : C8 G (gI S (40, 0, 0) i v) (mSet M 20 i 0 v) 40 20 (mRn M) := d9.set (fun _ _ _ q => q)
  exact ⟨⟨d0, d1, d2, d3, d4, d5, d6, d7, d8, e, d10, d11, d12, d13, d14, d15, d16, d17, d18, d19, d20, d21, d22, d23, d24, d25, d26⟩, gFc.I (by simp)⟩
theorem DR.f19 {G : gG} {M : mM} {ow : Nat → Bool} {S : gS} (h : DR G M ow S) {i : Nat} (v : Int32) : DR G (mSet M 19 i 0 v) ow (gI S (41, 0, 0) i v) ∧ gFc S (gI S (41, 0, 0) i v) := by
  obtain ⟨d0, d1, d2, d3, d4, d5, d6, d7, d8, d9, d10, d11, d12, d13, d14, d15, d16, d17, d18, d19, d20, d21, d22, d23, d24, d25, d26⟩ := h
  have e : C8 G (gI S (41, 0, 0) i v) (mSet M 19 i 0 v) 41 19 (mRn M) := d10.set (fun _ _ _ q => q)
  exact ⟨⟨d0, d1, d2, d3, d4, d5, d6, d7, d8, d9, e, d11, d12, d13, d14, d15, d16, d17, d18, d19, d20, d21, d22, d23, d24, d25, d26⟩, gFc.I (by simp)⟩
theorem DR.f22 {G : gG} {M : mM} {ow : Nat → Bool} {S : gS} (h : DR G M ow S) {i : Nat} (v : Int32) : DR G (mSet M 22 i 0 v) ow (gI S (44, 0, 0) i v) ∧ gFc S (gI S (44, 0, 0) i v) := by
  obtain ⟨d0, d1, d2, d3, d4, d5, d6, d7, d8, d9, d10, d11, d12, d13, d14, d15, d16, d17, d18, d19, d20, d21, d22, d23, d24, d25, d26⟩ := h
  have e : C8 G (gI S (44, 0, 0) i v) (mSet M 22 i 0 v) 44 22 (mRn M) := d11.set (fun _ _ _ q => q)
  exact ⟨⟨d0, d1, d2, d3, d4, d5, d6, d7, d8, d9, d10, e, d12, d13, d14, d15, d16, d17, d18, d19, d20, d21, d22, d23, d24, d25, d26⟩, gFc.I (by simp)⟩
theorem DR.f27 {G : gG} {M : mM} {ow : Nat → Bool} {S : gS} (h : DR G M ow S) {i : Nat} (v : Int32) : DR G (mSet M 27 i 0 v) ow (gI S (45, 0, 0) i v) ∧ gFc S (gI S (45, 0, 0) i v) := by
  obtain ⟨d0, d1, d2, d3, d4, d5, d6, d7, d8, d9, d10, d11, d12, d13, d14, d15, d16, d17, d18, d19, d20, d21, d22, d23, d24, d25, d26⟩ := h
  have e : C8 G (gI S (45, 0, 0) i v) (mSet M 27 i 0 v) 45 27 (mRn M) := d12.set (fun _ _ _ q => q)
  exact ⟨⟨d0, d1, d2, d3, d4, d5, d6, d7, d8, d9, d10, d11, e, d13, d14, d15, d16, d17, d18, d19, d20, d21, d22, d23, d24, d25, d26⟩, gFc.I (by simp)⟩
theorem DR.f23 {G : gG} {M : mM} {ow : Nat → Bool} {S : gS} (h : DR G M ow S) {i : Nat} (v : Int32) : DR G (mSet M 23 i 0 v) ow (gI S (38, 0, 0) i v) ∧ gFc S (gI S (38, 0, 0) i v) := by
  obtain ⟨d0, d1, d2, d3, d4, d5, d6, d7, d8, d9, d10, d11, d12, d13, d14, d15, d16, d17, d18, d19, d20, d21, d22, d23, d24, d25, d26⟩ := h
  have e : C8 G (gI S (38, 0, 0) i v) (mSet M 23 i 0 v) 38 23 (mPb M) := d15.set (fun _ _ _ q => q)
  exact ⟨⟨d0, d1, d2, d3, d4, d5, d6, d7, d8, d9, d10, d11, d12, d13, d14, e, d16, d17, d18, d19, d20, d21, d22, d23, d24, d25, d26⟩, gFc.I (by simp)⟩
theorem DR.n23 {G : gG} {M : mM} {ow : Nat → Bool} {S : gS} (h : DR G M ow S) {i : Nat} (hn : ¬ mPb M i) (v : Int32) : DR G M ow (gI S (38, 0, 0) i v) ∧ gFc S (gI S (38, 0, 0) i v) := by
  obtain ⟨d0, d1, d2, d3, d4, d5, d6, d7, d8, d9, d10, d11, d12, d13, d14, d15, d16, d17, d18, d19, d20, d21, d22, d23, d24, d25, d26⟩ := h
  have e : C8 G (gI S (38, 0, 0) i v) M 38 23 (mPb M) := fun i' hi' q => by
    rw [gI1, if_neg (fun z => hn (by rw [← z.2]; exact q))]
    exact d15 i' hi' q
  exact ⟨⟨d0, d1, d2, d3, d4, d5, d6, d7, d8, d9, d10, d11, d12, d13, d14, e, d16, d17, d18, d19, d20, d21, d22, d23, d24, d25, d26⟩, gFc.I (by simp)⟩
theorem DR.f24 {G : gG} {M : mM} {ow : Nat → Bool} {S : gS} (h : DR G M ow S) {i : Nat} (v : Int32) : DR G (mSet M 24 i 0 v) ow (gI S (39, 0, 0) i v) ∧ gFc S (gI S (39, 0, 0) i v) := by
  obtain ⟨d0, d1, d2, d3, d4, d5, d6, d7, d8, d9, d10, d11, d12, d13, d14, d15, d16, d17, d18, d19, d20, d21, d22, d23, d24, d25, d26⟩ := h
  have e : C8 G (gI S (39, 0, 0) i v) (mSet M 24 i 0 v) 39 24 (mPb M) := d16.set (fun _ _ _ q => q)
  exact ⟨⟨d0, d1, d2, d3, d4, d5, d6, d7, d8, d9, d10, d11, d12, d13, d14, d15, e, d17, d18, d19, d20, d21, d22, d23, d24, d25, d26⟩, gFc.I (by simp)⟩
theorem DR.n24 {G : gG} {M : mM} {ow : Nat → Bool} {S : gS} (h : DR G M ow S) {i : Nat} (hn : ¬ mPb M i) (v : Int32) : DR G M ow (gI S (39, 0, 0) i v) ∧ gFc S (gI S (39, 0, 0) i v) := by
  obtain ⟨d0, d1, d2, d3, d4, d5, d6, d7, d8, d9, d10, d11, d12, d13, d14, d15, d16, d17, d18, d19, d20, d21, d22, d23, d24, d25, d26⟩ := h
  have e : C8 G (gI S (39, 0, 0) i v) M 39 24 (mPb M) := fun i' hi' q => by
    rw [gI1, if_neg (fun z => hn (by rw [← z.2]; exact q))]
    exact d16 i' hi' q
  exact ⟨⟨d0, d1, d2, d3, d4, d5, d6, d7, d8, d9, d10, d11, d12, d13, d14, d15, e, d17, d18, d19, d20, d21, d22, d23, d24, d25, d26⟩, gFc.I (by simp)⟩
theorem DR.f25 {G : gG} {M : mM} {ow : Nat → Bool} {S : gS} (h : DR G M ow S) {i : Nat} (v : Int32) : DR G (mSet M 25 i 0 v) ow (gI S (42, 0, 0) i v) ∧ gFc S (gI S (42, 0, 0) i v) := by
  obtain ⟨d0, d1, d2, d3, d4, d5, d6, d7, d8, d9, d10, d11, d12, d13, d14, d15, d16, d17, d18, d19, d20, d21, d22, d23, d24, d25, d26⟩ := h
  have e : C8 G (gI S (42, 0, 0) i v) (mSet M 25 i 0 v) 42 25 (mPb M) := d17.set (fun _ _ _ q => q)
  exact ⟨⟨d0, d1, d2, d3, d4, d5, d6, d7, d8, d9, d10, d11, d12, d13, d14, d15, d16, e, d18, d19, d20, d21, d22, d23, d24, d25, d26⟩, gFc.I (by simp)⟩
theorem DR.n25 {G : gG} {M : mM} {ow : Nat → Bool} {S : gS} (h : DR G M ow S) {i : Nat} (hn : ¬ mPb M i) (v : Int32) : DR G M ow (gI S (42, 0, 0) i v) ∧ gFc S (gI S (42, 0, 0) i v) := by
  obtain ⟨d0, d1, d2, d3, d4, d5, d6, d7, d8, d9, d10, d11, d12, d13, d14, d15, d16, d17, d18, d19, d20, d21, d22, d23, d24, d25, d26⟩ := h
  have e : C8 G (gI S (42, 0, 0) i v) M 42 25 (mPb M) := fun i' hi' q => by
    rw [gI1, if_neg (fun z => hn (by rw [← z.2]; exact q))]
    exact d17 i' hi' q
  exact ⟨⟨d0, d1, d2, d3, d4, d5, d6, d7, d8, d9, d10, d11, d12, d13, d14, d15, d16, e, d18, d19, d20, d21, d22, d23, d24, d25, d26⟩, gFc.I (by simp)⟩
theorem DR.f26 {G : gG} {M : mM} {ow : Nat → Bool} {S : gS} (h : DR G M ow S) {i : Nat} (v : Int32) : DR G (mSet M 26 i 0 v) ow (gI S (43, 0, 0) i v) ∧ gFc S (gI S (43, 0, 0) i v) := by
  obtain ⟨d0, d1, d2, d3, d4, d5, d6, d7, d8, d9, d10, d11, d12, d13, d14, d15, d16, d17, d18, d19, d20, d21, d22, d23, d24, d25, d26⟩ := h
  have e : C8 G (gI S (43, 0, 0) i v) (mSet M 26 i 0 v) 43 26 (mPb M) := d18.set (fun _ _ _ q => q)
  exact ⟨⟨d0, d1, d2, d3, d4, d5, d6, d7, d8, d9, d10, d11, d12, d13, d14, d15, d16, d17, e, d19, d20, d21, d22, d23, d24, d25, d26⟩, gFc.I (by simp)⟩
theorem DR.n26 {G : gG} {M : mM} {ow : Nat → Bool} {S : gS} (h : DR G M ow S) {i : Nat} (hn : ¬ mPb M i) (v : Int32) : DR G M ow (gI S (43, 0, 0) i v) ∧ gFc S (gI S (43, 0, 0) i v) := by
  obtain ⟨d0, d1, d2, d3, d4, d5, d6, d7, d8, d9, d10, d11, d12, d13, d14, d15, d16, d17, d18, d19, d20, d21, d22, d23, d24, d25, d26⟩ := h
  have e : C8 G (gI S (43, 0, 0) i v) M 43 26 (mPb M) := fun i' hi' q => by
    rw [gI1, if_neg (fun z => hn (by rw [← z.2]; exact q))]
    exact d18 i' hi' q
  exact ⟨⟨d0, d1, d2, d3, d4, d5, d6, d7, d8, d9, d10, d11, d12, d13, d14, d15, d16, d17, e, d19, d20, d21, d22, d23, d24, d25, d26⟩, gFc.I (by simp)⟩
theorem mSet_same {M : mM} {f i j : Nat} {v : Int32} (h : M.1 f i j = v) : mSet M f i j v = M := by
  refine mM_ext (fun f2 i2 j2 => ?_) rfl
  by_cases e : f2 = f ∧ i2 = i ∧ j2 = j
  · obtain ⟨rfl, rfl, rfl⟩ := e
    rw [mSet_eq, h]
  · rw [mSet_ne e]
/-! cells that move down -/
def zSh (S : gS) (K : gK) (lo x d : Nat) : gS := (fun k f => if k = K ∧ lo ≤ f ∧ f < x then S.1 K (f + d) else S.1 k f, S.2)
theorem zSh_0 {S : gS} {K : gK} {lo d : Nat} : zSh S K lo lo d = S := Prod.ext (funext fun k => funext fun f => if_neg (by omega)) rfl
theorem zSh_r {S : gS} {K : gK} {lo x d y : Nat} (h : x ≤ y) : (zSh S K lo x d).1 K y = S.1 K y := if_neg (by omega)
theorem zSh_o {S : gS} {K k : gK} {lo x d f : Nat} (h : k ≠ K) : (zSh S K lo x d).1 k f = S.1 k f := if_neg (fun q => h q.1)
theorem zSh_at {S : gS} {K : gK} {lo x d f : Nat} : (zSh S K lo x d).1 K f = if lo ≤ f ∧ f < x then S.1 K (f + d) else S.1 K f := by
  unfold zSh
  simp only [true_and]
theorem zSh_s {S : gS} {K : gK} {lo x d : Nat} (h : lo ≤ x) : gI (zSh S K lo x d) K x (S.1 K (x + d)) = zSh S K lo (x + 1) d := by
  refine Prod.ext (funext fun k => funext fun f => ?_) rfl
  rw [gI1]
  by_cases e : k = K
  · subst e
    by_cases e2 : f = x
    · subst e2
      rw [if_pos ⟨rfl, rfl⟩, zSh_at, if_pos ⟨h, by omega⟩]
    · rw [if_neg (fun z => e2 z.2), zSh_at, zSh_at]
      by_cases e3 : lo ≤ f ∧ f < x
      · rw [if_pos e3, if_pos (by omega)]
      · rw [if_neg e3, if_neg (by omega)]
  · rw [if_neg (fun z => e z.1), zSh_o e, zSh_o e]
theorem zSh_fc {S : gS} {K : gK} {lo x d : Nat} (h : 20 ≤ K.1) : gFc S (zSh S K lo x d) := fun k hk => ⟨funext fun f => zSh_o (fun e => by rw [e] at hk; omega), rfl⟩
theorem ix16_4 (i k : Nat) : (16 : Int32) * nI i + 4 * nI k = nI (16 * i + 4 * k) := (congr (congrArg (fun a b => a + b) (pk_mul 16 i)) (pk_mul 4 k)).trans (nI_add _ _)
theorem gc_Z_removeRelay {G : gG} {la : Launch} {S : gS} {i k u : Nat} (hi : i < 8) (hk : k ≤ u) (hu : u ≤ 3) (h34 : S.1 (34, 0, 0) i = nI (u + 1)) (hst : gSt G S) : gM G la qy_Z_removeRelay qw_Z_removeRelay 0 0 0 (gTt G) (gTt G) [.inr (some (20, 0, 0)), .inl (nI i), .inl (nI k)] S (fun v S' => v = none ∧ S' = zSh (gI S (34, 0, 0) i (nI u)) (35, 0, 0) (16 * i + 4 * k) (16 * i + 4 * u) 4) := by
  refine gM_of (cc := qc_Z_removeRelay) (maxL := 4) (by decide) rfl (Nat.le_of_ble_eq_true rfl) ?_
  intro E cx hr hnm hcz hsz hEl
  subst hEl
  suffices hh : ∀ t, t ≤ 4 * (u - k) → (fun t => gZ G E 0 0 (gEnd G E 0 0 (gTt G) (fun v S' => v = none ∧ S' = zSh (gI S (34, 0, 0) i (nI u)) (35, 0, 0) (16 * i + 4 * k) (16 * i + 4 * u) 4)) (gTt G) 19 [some (.inr (some (20, 0, 0))), some (.inl (nI i)), some (.inl (nI k)), some (.inl (nI (16 * i + 4 * k + t)))] [] (zSh (gI S (34, 0, 0) i (nI u)) (35, 0, 0) (16 * i + 4 * k) (16 * i + 4 * k + t) 4)) t by
    refine gz_aload_n (pc := 0) cx qd_Z_removeRelay_0 rfl rfl ?_
    refine gz_getR (pc := 1) cx qf_Z_50 qd_Z_removeRelay_1 gm_Z rfl rfl (hst _ _ _ rfl) ?_
    refine gz_iload_n (pc := 4) cx qd_Z_removeRelay_4 rfl rfl ?_
    refine gz_dup2 (pc := 5) cx qd_Z_removeRelay_5 ?_
    refine gz_ialoadV (pc := 6) cx qd_Z_removeRelay_6 (gm_za (by decide) (by decide)) rfl h34 rfl (by omega) (by decide) ?_
    refine gz_iconst (v := 1) (pc := 7) cx qd_Z_removeRelay_7 (by decide) ?_
    refine gz_isub (pc := 8) cx qd_Z_removeRelay_8 ?_
    rw [nI_pred]
    refine gz_iastore (pc := 9) cx qd_Z_removeRelay_9 (gm_za (by decide) (by decide)) rfl rfl (by omega) (by decide) ?_
    refine gz_bipush (v := 16) (pc := 10) cx qd_Z_removeRelay_10 (by decide) ?_
    refine gz_iload_n (pc := 12) cx qd_Z_removeRelay_12 rfl rfl ?_
    refine gz_imul (pc := 13) cx qd_Z_removeRelay_13 ?_
    refine gz_iconst (v := 4) (pc := 14) cx qd_Z_removeRelay_14 (by decide) ?_
    refine gz_iload_n (pc := 15) cx qd_Z_removeRelay_15 rfl rfl ?_
    refine gz_imul (pc := 16) cx qd_Z_removeRelay_16 ?_
    refine gz_iadd (pc := 17) cx qd_Z_removeRelay_17 ?_
    try rw [ix16]
    rw [ix16_4]
    refine gz_istore_n (pc := 18) cx qd_Z_removeRelay_18 rfl (Nat.le_of_ble_eq_true rfl) ?_
    have h0 := hh 0 (Nat.zero_le _)
    dsimp only at h0
    rw [Nat.add_zero, zSh_0] at h0
    exact h0
  have hst2 : ∀ x, gSt G (zSh (gI S (34, 0, 0) i (nI u)) (35, 0, 0) (16 * i + 4 * k) x 4) := fun x => hst
  have e34 : ∀ x, (zSh (gI S (34, 0, 0) i (nI u)) (35, 0, 0) (16 * i + 4 * k) x 4).1 (34, 0, 0) i = nI u := fun x => (zSh_o (by simp)).trans (by rw [gI1, if_pos ⟨rfl, rfl⟩])
  refine g_upto ?_ ?_
  · have ez : 16 * i + 4 * k + 4 * (u - k) = 16 * i + 4 * u := by omega
    rw [ez]
    refine gz_iload_n (pc := 19) cx qd_Z_removeRelay_19 rfl rfl ?_
    refine gz_bipush (v := 16) (pc := 20) cx qd_Z_removeRelay_20 (by decide) ?_
    refine gz_iload_n (pc := 22) cx qd_Z_removeRelay_22 rfl rfl ?_
    refine gz_imul (pc := 23) cx qd_Z_removeRelay_23 ?_
    refine gz_iconst (v := 4) (pc := 24) cx qd_Z_removeRelay_24 (by decide) ?_
    refine gz_aload_n (pc := 25) cx qd_Z_removeRelay_25 rfl rfl ?_
    refine gz_getR (pc := 26) cx qf_Z_50 qd_Z_removeRelay_26 gm_Z rfl rfl (hst2 _ _ _ _ rfl) ?_
    refine gz_iload_n (pc := 29) cx qd_Z_removeRelay_29 rfl rfl ?_
    refine gz_ialoadV (pc := 30) cx qd_Z_removeRelay_30 (gm_za (by decide) (by decide)) rfl (e34 _) rfl (by omega) (by decide) ?_
    refine gz_imul (pc := 31) cx qd_Z_removeRelay_31 ?_
    refine gz_iadd (pc := 32) cx qd_Z_removeRelay_32 ?_
    rw [ix16_4]
    refine gz_icmp_ge (tgt := 56) (pc := 33) cx qd_Z_removeRelay_33 (by decide) (fun _ => ?_) (fun h33 => absurd (Int32.le_refl _) h33)
    refine gz_return (pc := 56) cx hr qd_Z_removeRelay_56 ?_
    exact ⟨rfl, rfl⟩
  · intro t ht ih
    refine gz_iload_n (pc := 19) cx qd_Z_removeRelay_19 rfl rfl ?_
    refine gz_bipush (v := 16) (pc := 20) cx qd_Z_removeRelay_20 (by decide) ?_
    refine gz_iload_n (pc := 22) cx qd_Z_removeRelay_22 rfl rfl ?_
    refine gz_imul (pc := 23) cx qd_Z_removeRelay_23 ?_
    refine gz_iconst (v := 4) (pc := 24) cx qd_Z_removeRelay_24 (by decide) ?_
    refine gz_aload_n (pc := 25) cx qd_Z_removeRelay_25 rfl rfl ?_
    refine gz_getR (pc := 26) cx qf_Z_50 qd_Z_removeRelay_26 gm_Z rfl rfl (hst2 _ _ _ _ rfl) ?_
    refine gz_iload_n (pc := 29) cx qd_Z_removeRelay_29 rfl rfl ?_
    refine gz_ialoadV (pc := 30) cx qd_Z_removeRelay_30 (gm_za (by decide) (by decide)) rfl (e34 _) rfl (by omega) (by decide) ?_
    refine gz_imul (pc := 31) cx qd_Z_removeRelay_31 ?_
    refine gz_iadd (pc := 32) cx qd_Z_removeRelay_32 ?_
    rw [ix16_4]
    refine gz_icmp_ge (tgt := 56) (pc := 33) cx qd_Z_removeRelay_33 (by decide) (fun h33 => absurd h33 (nI_ge (by omega) (by omega))) (fun _ => ?_)
    refine gz_aload_n (pc := 36) cx qd_Z_removeRelay_36 rfl rfl ?_
    refine gz_getR (pc := 37) cx qf_Z_53 qd_Z_removeRelay_37 gm_Z rfl rfl (hst2 _ _ _ _ rfl) ?_
    refine gz_iload_n (pc := 40) cx qd_Z_removeRelay_40 rfl rfl ?_
    refine gz_aload_n (pc := 41) cx qd_Z_removeRelay_41 rfl rfl ?_
    refine gz_getR (pc := 42) cx qf_Z_53 qd_Z_removeRelay_42 gm_Z rfl rfl (hst2 _ _ _ _ rfl) ?_
    refine gz_iload_n (pc := 45) cx qd_Z_removeRelay_45 rfl rfl ?_
    refine gz_iconst (v := 4) (pc := 46) cx qd_Z_removeRelay_46 (by decide) ?_
    refine gz_iadd (pc := 47) cx qd_Z_removeRelay_47 ?_
    refine gz_ialoadV (pc := 48) cx qd_Z_removeRelay_48 (gm_za (by decide) (by decide)) rfl (zSh_r (by omega)) (nI_add _ 4) (by omega) (by decide) ?_
    refine gz_iastore (pc := 49) cx qd_Z_removeRelay_49 (gm_za (by decide) (by decide)) rfl rfl (by omega) (by decide) ?_
    refine gz_iinc (pc := 50) cx qd_Z_removeRelay_50 rfl (g_inc _) ?_
    refine gz_goto (tgt := 19) (pc := 53) cx qd_Z_removeRelay_53 (by decide) ?_
    rw [zSh_s (by omega)]
    exact ih
theorem DR.rm {G : gG} {M : mM} {ow : Nat → Bool} {S : gS} (h : DR G M ow S) {i k u : Nat} (hi : i < G.1) (hr : mRn M i) (hl : (M.2.1 i).length = u + 1) (hk : k ≤ u) : DR G (mRl M i ((M.2.1 i).eraseIdx k)) ow (zSh (gI S (34, 0, 0) i (nI u)) (35, 0, 0) (16 * i + 4 * k) (16 * i + 4 * u) 4) ∧ gFc S (zSh (gI S (34, 0, 0) i (nI u)) (35, 0, 0) (16 * i + 4 * k) (16 * i + 4 * u) 4) := by
  obtain ⟨d0, d1, d2, d3, d4, d5, d6, d7, d8, d9, d10, d11, d12, d13, d14, d15, d16, d17, d18, d19, d20, d21, d22, d23, d24, d25, d26⟩ := h
  have e : DLr G (zSh (gI S (34, 0, 0) i (nI u)) (35, 0, 0) (16 * i + 4 * k) (16 * i + 4 * u) 4) (mRl M i ((M.2.1 i).eraseIdx k)) := by
    intro i' hi' hr'
    have hu3 := (d19 i hi hr).2.1
    obtain ⟨c1, c2, c3⟩ := d19 i' hi' hr'
    have e0 : ∀ y, (gI S (34, 0, 0) i (nI u)).1 (35, 0, 0) y = S.1 (35, 0, 0) y := fun y => by rw [gI1, if_neg (fun z => by simp at z)]
    by_cases q : i' = i
    · subst q
      have le : ((M.2.1 i').eraseIdx k).length = u := by rw [List.length_eraseIdx, if_pos (by omega), hl]; rfl
      rw [mRl_at, le, zSh_o (by simp), gI1, if_pos ⟨rfl, rfl⟩]
      refine ⟨rfl, by omega, fun k' hk' f hf => ?_⟩
      rw [getD_erase, zSh_at]
      by_cases z : k' < k
      · rw [if_pos z, if_neg (by omega), e0]
        exact c3 k' (by omega) f hf
      · rw [if_neg z, if_pos (by omega), e0]
        have := c3 (k' + 1) (by omega) f hf
        rw [show 16 * i' + 4 * k' + f + 4 = 16 * i' + 4 * (k' + 1) + f by omega]
        exact this
    · have er : (mRl M i ((M.2.1 i).eraseIdx k)).2.1 i' = M.2.1 i' := if_neg q
      rw [er, zSh_o (by simp), gI1, if_neg (fun z => q z.2)]
      refine ⟨c1, c2, fun k' hk' f hf => ?_⟩
      rw [zSh_at, if_neg (by omega), e0]
      exact c3 k' hk' f hf
  exact ⟨⟨d0, d1, d2, d3, d4, d5, d6, d7, d8, d9, d10, d11, d12, d13, d14, d15, d16, d17, d18, e, d20, d21, d22, d23, d24, d25, d26⟩, (gFc.I (by simp)).tr (zSh_fc (by simp))⟩
def zP (no o g : Int32) (x : List Int32) : Bool := decide (x.getD 0 0 = no ∧ x.getD 1 0 = o ∧ x.getD 2 0 = g)
def zF (r : List (List Int32)) (no o g : Int32) (k : Nat) : Int32 := match (r.drop k).findIdx? (zP no o g) with
  | none => -1
  | some j => nI (k + j)
theorem zF_end {r : List (List Int32)} {no o g : Int32} {k : Nat} (h : r.length ≤ k) : zF r no o g k = -1 := by
  unfold zF
  rw [List.drop_eq_nil_of_le h]; rfl
theorem zF_s {r : List (List Int32)} {no o g : Int32} {k : Nat} (h : k < r.length) : zF r no o g k = if (r.getD k []).getD 0 0 = no ∧ (r.getD k []).getD 1 0 = o ∧ (r.getD k []).getD 2 0 = g then nI k else zF r no o g (k + 1) := by
  have e : r.drop k = r.getD k [] :: r.drop (k + 1) := by
    rw [List.drop_eq_getElem_cons h, List.getD_eq_getElem?_getD, List.getElem?_eq_getElem h]; rfl
  unfold zF
  rw [e, List.findIdx?_cons]
  by_cases q : (r.getD k []).getD 0 0 = no ∧ (r.getD k []).getD 1 0 = o ∧ (r.getD k []).getD 2 0 = g
  · rw [if_pos (show zP no o g (r.getD k []) = true from decide_eq_true q), if_pos q]; rfl
  · rw [if_neg (show ¬ zP no o g (r.getD k []) = true from fun z => q (of_decide_eq_true z)), if_neg q]
    cases (List.drop (k + 1) r).findIdx? (zP no o g) with
    | none => rfl
    | some j => show nI (k + (j + 1)) = nI (k + 1 + j); congr 1; omega
theorem zF_0 {r : List (List Int32)} {no o g : Int32} : zF r no o g 0 = match mFind r no o g with
  | none => -1
  | some k => nI k := by
  unfold zF mFind
  rw [List.drop_zero]
  show (match r.findIdx? (zP no o g) with | none => -1 | some j => nI (0 + j)) = match r.findIdx? (zP no o g) with | none => -1 | some k => nI k
  cases r.findIdx? (zP no o g) with
  | none => rfl
  | some j => show nI (0 + j) = nI j; rw [Nat.zero_add]
theorem nI_m1 (k : Nat) : nI k + Int32.ofInt (-1) = nI k - 1 := by rw [Int32.sub_eq_add_neg]; rfl
theorem gc_Z_relayOf {G : gG} {la : Launch} {S : gS} {i : Nat} {r : List (List Int32)} {no o g : Int32} (hi : i < 8) (hst : gSt G S) (h34 : S.1 (34, 0, 0) i = nI r.length) (h4 : r.length ≤ 4) (h35 : ∀ k, k < r.length → ∀ f, f < 4 → S.1 (35, 0, 0) (16 * i + 4 * k + f) = (r.getD k []).getD f 0) : gM G la qy_Z_relayOf qw_Z_relayOf 0 0 0 (gTt G) (gTt G) [.inr (some (20, 0, 0)), .inl (nI i), .inl no, .inl o, .inl g] S (fun v S' => v = some (.inl (zF r no o g 0)) ∧ S' = S) := by
  refine gM_of (cc := qc_Z_relayOf) (maxL := 8) (by decide) rfl (Nat.le_of_ble_eq_true rfl) ?_
  intro E cx hr hnm hcz hsz hEl
  subst hEl
  suffices hh : ∀ k, k ≤ r.length → ∀ x, gZ G E 0 0 (gEnd G E 0 0 (gTt G) (fun v S' => v = some (.inl (zF r no o g 0)) ∧ S' = S)) (gTt G) 13 [some (.inr (some (20, 0, 0))), some (.inl (nI i)), some (.inl no), some (.inl o), some (.inl g), some (.inl (zF r no o g k)), some (.inl (nI k - 1)), x] [] S by
    refine gz_iconst (v := -1) (pc := 0) cx qd_Z_relayOf_0 (by decide) ?_
    refine gz_istore (pc := 1) cx qd_Z_relayOf_1 (Nat.le_of_ble_eq_true rfl) ?_
    refine gz_aload_n (pc := 3) cx qd_Z_relayOf_3 rfl rfl ?_
    refine gz_getR (pc := 4) cx qf_Z_50 qd_Z_relayOf_4 gm_Z rfl rfl (hst _ _ _ rfl) ?_
    refine gz_iload_n (pc := 7) cx qd_Z_relayOf_7 rfl rfl ?_
    refine gz_ialoadV (pc := 8) cx qd_Z_relayOf_8 (gm_za (by decide) (by decide)) rfl h34 rfl (by omega) (by decide) ?_
    refine gz_iconst (v := 1) (pc := 9) cx qd_Z_relayOf_9 (by decide) ?_
    refine gz_isub (pc := 10) cx qd_Z_relayOf_10 ?_
    refine gz_istore (pc := 11) cx qd_Z_relayOf_11 (Nat.le_of_ble_eq_true rfl) ?_
    rw [← zF_end (r := r) (no := no) (o := o) (g := g) (Nat.le_refl _)]
    exact hh _ (Nat.le_refl _) _
  intro k
  induction k with
  | zero =>
    intro _ x
    refine gz_iload (pc := 13) cx qd_Z_relayOf_13 rfl ?_
    refine gz_if_lt (tgt := 82) (pc := 15) cx qd_Z_relayOf_15 (by decide) (fun _ => ?_) (fun h15 => absurd (by decide : nI 0 - 1 < 0) h15)
    refine gz_iload (pc := 82) cx qd_Z_relayOf_82 rfl ?_
    refine gz_ireturn (pc := 84) cx hr rfl qd_Z_relayOf_84 ?_
    exact ⟨rfl, rfl⟩
  | succ k ih =>
    intro hk x
    rw [nI_pred]
    have c := h35 k (by omega)
    have c0 := c 0 (by decide)
    refine gz_iload (pc := 13) cx qd_Z_relayOf_13 rfl ?_
    refine gz_if_lt (tgt := 82) (pc := 15) cx qd_Z_relayOf_15 (by decide) (fun h15 => absurd h15 (nI_pos (by omega))) (fun _ => ?_)
    refine gz_bipush (v := 16) (pc := 18) cx qd_Z_relayOf_18 (by decide) ?_
    refine gz_iload_n (pc := 20) cx qd_Z_relayOf_20 rfl rfl ?_
    refine gz_imul (pc := 21) cx qd_Z_relayOf_21 ?_
    refine gz_iconst (v := 4) (pc := 22) cx qd_Z_relayOf_22 (by decide) ?_
    refine gz_iload (pc := 23) cx qd_Z_relayOf_23 rfl ?_
    refine gz_imul (pc := 25) cx qd_Z_relayOf_25 ?_
    refine gz_iadd (pc := 26) cx qd_Z_relayOf_26 ?_
    try rw [ix16]
    rw [ix16_4]
    refine gz_istore (pc := 27) cx qd_Z_relayOf_27 (Nat.le_of_ble_eq_true rfl) ?_
    refine gz_aload_n (pc := 29) cx qd_Z_relayOf_29 rfl rfl ?_
    refine gz_getR (pc := 30) cx qf_Z_53 qd_Z_relayOf_30 gm_Z rfl rfl (hst _ _ _ rfl) ?_
    refine gz_iload (pc := 33) cx qd_Z_relayOf_33 rfl ?_
    refine gz_ialoadV (pc := 35) cx qd_Z_relayOf_35 (gm_za (by decide) (by decide)) rfl (c 0 (by decide)) rfl (by omega) (by decide) ?_
    refine gz_iload_n (pc := 36) cx qd_Z_relayOf_36 rfl rfl ?_
    refine gz_icmp_ne (tgt := 72) (pc := 37) cx qd_Z_relayOf_37 (by decide) (fun h37 => ?_) (fun h37 => ?_)
    · refine gz_iload (pc := 72) cx qd_Z_relayOf_72 rfl ?_
      refine gz_istore (pc := 74) cx qd_Z_relayOf_74 (Nat.le_of_ble_eq_true rfl) ?_
      refine gz_iinc (pc := 76) cx qd_Z_relayOf_76 rfl (nI_m1 k) ?_
      refine gz_goto (tgt := 13) (pc := 79) cx qd_Z_relayOf_79 (by decide) ?_
      refine g_swap ?_ (ih (by omega) (some (.inl (nI (16 * i + 4 * k)))))
      rw [zF_s (k := k) hk, if_neg (fun q => h37 q.1)]
      rfl
    · refine gz_aload_n (pc := 40) cx qd_Z_relayOf_40 rfl rfl ?_
      refine gz_getR (pc := 41) cx qf_Z_53 qd_Z_relayOf_41 gm_Z rfl rfl (hst _ _ _ rfl) ?_
      refine gz_iload (pc := 44) cx qd_Z_relayOf_44 rfl ?_
      refine gz_iconst (v := 1) (pc := 46) cx qd_Z_relayOf_46 (by decide) ?_
      refine gz_iadd (pc := 47) cx qd_Z_relayOf_47 ?_
      refine gz_ialoadV (pc := 48) cx qd_Z_relayOf_48 (gm_za (by decide) (by decide)) rfl (c 1 (by decide)) (nI_add _ 1) (by omega) (by decide) ?_
      refine gz_iload_n (pc := 49) cx qd_Z_relayOf_49 rfl rfl ?_
      refine gz_icmp_ne (tgt := 72) (pc := 50) cx qd_Z_relayOf_50 (by decide) (fun h50 => ?_) (fun h50 => ?_)
      · refine gz_iload (pc := 72) cx qd_Z_relayOf_72 rfl ?_
        refine gz_istore (pc := 74) cx qd_Z_relayOf_74 (Nat.le_of_ble_eq_true rfl) ?_
        refine gz_iinc (pc := 76) cx qd_Z_relayOf_76 rfl (nI_m1 k) ?_
        refine gz_goto (tgt := 13) (pc := 79) cx qd_Z_relayOf_79 (by decide) ?_
        refine g_swap ?_ (ih (by omega) (some (.inl (nI (16 * i + 4 * k)))))
        rw [zF_s (k := k) hk, if_neg (fun q => h50 q.2.1)]
        rfl
      · refine gz_aload_n (pc := 53) cx qd_Z_relayOf_53 rfl rfl ?_
        refine gz_getR (pc := 54) cx qf_Z_53 qd_Z_relayOf_54 gm_Z rfl rfl (hst _ _ _ rfl) ?_
        refine gz_iload (pc := 57) cx qd_Z_relayOf_57 rfl ?_
        refine gz_iconst (v := 2) (pc := 59) cx qd_Z_relayOf_59 (by decide) ?_
        refine gz_iadd (pc := 60) cx qd_Z_relayOf_60 ?_
        refine gz_ialoadV (pc := 61) cx qd_Z_relayOf_61 (gm_za (by decide) (by decide)) rfl (c 2 (by decide)) (nI_add _ 2) (by omega) (by decide) ?_
        refine gz_iload (pc := 62) cx qd_Z_relayOf_62 rfl ?_
        refine gz_icmp_ne (tgt := 72) (pc := 64) cx qd_Z_relayOf_64 (by decide) (fun h64 => ?_) (fun h64 => ?_)
        · refine gz_iload (pc := 72) cx qd_Z_relayOf_72 rfl ?_
          refine gz_istore (pc := 74) cx qd_Z_relayOf_74 (Nat.le_of_ble_eq_true rfl) ?_
          refine gz_iinc (pc := 76) cx qd_Z_relayOf_76 rfl (nI_m1 k) ?_
          refine gz_goto (tgt := 13) (pc := 79) cx qd_Z_relayOf_79 (by decide) ?_
          refine g_swap ?_ (ih (by omega) (some (.inl (nI (16 * i + 4 * k)))))
          rw [zF_s (k := k) hk, if_neg (fun q => h64 q.2.2)]
          rfl
        · refine gz_iload (pc := 67) cx qd_Z_relayOf_67 rfl ?_
          refine gz_goto (tgt := 74) (pc := 69) cx qd_Z_relayOf_69 (by decide) ?_
          refine gz_istore (pc := 74) cx qd_Z_relayOf_74 (Nat.le_of_ble_eq_true rfl) ?_
          refine gz_iinc (pc := 76) cx qd_Z_relayOf_76 rfl (nI_m1 k) ?_
          refine gz_goto (tgt := 13) (pc := 79) cx qd_Z_relayOf_79 (by decide) ?_
          refine g_swap ?_ (ih (by omega) (some (.inl (nI (16 * i + 4 * k)))))
          rw [zF_s (k := k) hk, if_pos ⟨h37, h50, h64⟩]
          rfl
theorem gc_Z_acknowledged {G : gG} {la : Launch} {M : mM} {ow : Nat → Bool} {S : gS} {i : Nat} {no o g : Int32} (hi : i < G.1) (h : DR G M ow S) (hrun : mRn M i) (hV : mVt G.1 M i) (h24 : isB (M.1 24 i 0) 1) : gM G la qy_Z_acknowledged qw_Z_acknowledged 3 0 0 (gTt G) (gTt G) [.inr (some (20, 0, 0)), .inl (nI i), .inl no, .inl o, .inl g] S (fun v S' => v = none ∧ DR G (mAck G.1 M i no o g) ow S' ∧ gFc S S') := by
  refine gM_of (cc := qc_Z_acknowledged) (maxL := 6) (by decide) rfl (Nat.le_of_ble_eq_true rfl) ?_
  intro E cx hr hnm hcz hsz hEl
  subst hEl
  have hD := h
  obtain ⟨d0, d1, d2, d3, d4, d5, d6, d7, d8, d9, d10, d11, d12, d13, d14, d15, d16, d17, d18, d19, d20, d21, d22, d23, d24, d25, d26⟩ := h
  have h8 := d1.1
  have hst := d0
  obtain ⟨r1, r2, r3⟩ := d19 i hi hrun
  have eP := d13 i hi hrun
  have eN := d9 i hi hrun
  have e1 : mPb M i → S.1 (39, 0, 0) i ≠ 0 → M.1 24 i 0 = 1 := fun hp hz => by
    rw [d16 i hi hp] at hz
    obtain ⟨v, hv, ev⟩ := h24
    rw [ev] at hz ⊢
    have : v ≠ 0 := fun q => hz (by rw [q]; rfl)
    rw [show v = 1 by omega]; rfl
  have e0 : mPb M i → S.1 (39, 0, 0) i = 0 → M.1 24 i 0 = 0 := fun hp hz => by rw [← d16 i hi hp]; exact hz
  have hpb : ∀ {x : Int32}, x = bI (decide (M.1 21 i 0 ≠ -1)) → ¬ x = 0 → M.1 21 i 0 ≠ -1 := fun hx hz => by rw [hx] at hz; exact bI_t hz
  have hnp : ∀ {x : Int32}, x = bI (decide (M.1 21 i 0 ≠ -1)) → x = 0 → ¬ mPb M i := fun hx hz q => by rw [hx] at hz; exact bI_f hz q.2
  refine gz_iload_n (pc := 0) cx qd_Z_acknowledged_0 rfl rfl ?_
  refine gz_iload_n (pc := 1) cx qd_Z_acknowledged_1 rfl rfl ?_
  refine gz_icmp_ne (tgt := 45) (pc := 2) cx qd_Z_acknowledged_2 (by decide) (fun h2 => ?_) (fun h2 => ?_)
  · refine gz_aload_n (pc := 45) cx qd_Z_acknowledged_45 rfl rfl ?_
    refine gz_iload_n (pc := 46) cx qd_Z_acknowledged_46 rfl rfl ?_
    refine gz_iload_n (pc := 47) cx qd_Z_acknowledged_47 rfl rfl ?_
    refine gz_iload_n (pc := 48) cx qd_Z_acknowledged_48 rfl rfl ?_
    refine gz_iload (pc := 49) cx qd_Z_acknowledged_49 rfl ?_
    refine gz_callV (pc := 51) cx qv_Z_133 qd_Z_acknowledged_51 (gc_Z_relayOf (r := M.2.1 i) (by omega) hst r1 r2 r3) (by decide) rfl gm_Z rfl rfl rfl rfl (Nat.le_of_ble_eq_true rfl) ⟨Nat.zero_le _, Nat.zero_le _⟩ ?_
    rintro _ _ ⟨rfl, rfl⟩
    unfold mAck
    rw [if_neg (fun q => h2 q.symm), zF_0]
    cases hf : mFind (M.2.1 i) no o g with
    | none =>
      refine gz_istore (pc := 54) cx qd_Z_acknowledged_54 (Nat.le_of_ble_eq_true rfl) ?_
      refine gz_iload (pc := 56) cx qd_Z_acknowledged_56 rfl ?_
      refine gz_if_ge (tgt := 62) (pc := 58) cx qd_Z_acknowledged_58 (by decide) (fun h58 => absurd h58 (by decide)) (fun _ => ?_)
      refine gz_return (pc := 61) cx hr qd_Z_acknowledged_61 ?_
      exact ⟨rfl, hD, gFc.rf⟩
    | some k =>
      have hk : k < (M.2.1 i).length := (List.findIdx?_eq_some_iff_findIdx_eq.mp hf).1
      obtain ⟨u, hu⟩ : ∃ u, (M.2.1 i).length = u + 1 := ⟨(M.2.1 i).length - 1, by omega⟩
      obtain ⟨c1, f1⟩ := hD.rm (k := k) hi hrun hu (by omega)
      refine gz_istore (pc := 54) cx qd_Z_acknowledged_54 (Nat.le_of_ble_eq_true rfl) ?_
      refine gz_iload (pc := 56) cx qd_Z_acknowledged_56 rfl ?_
      refine gz_if_ge (tgt := 62) (pc := 58) cx qd_Z_acknowledged_58 (by decide) (fun _ => ?_) (fun h58 => absurd (nI_pos' (by omega)) h58)
      refine gz_aload_n (pc := 62) cx qd_Z_acknowledged_62 rfl rfl ?_
      refine gz_iload_n (pc := 63) cx qd_Z_acknowledged_63 rfl rfl ?_
      refine gz_iload (pc := 64) cx qd_Z_acknowledged_64 rfl ?_
      refine gz_callV (pc := 66) cx qv_Z_137 qd_Z_acknowledged_66 (gc_Z_removeRelay (u := u) (by omega) (by omega) (by omega) (by rw [r1, hu]) hst) (by decide) rfl gm_Z rfl rfl rfl rfl (Nat.le_of_ble_eq_true rfl) ⟨Nat.zero_le _, Nat.zero_le _⟩ ?_
      rintro _ _ ⟨rfl, rfl⟩
      refine gz_aload_n (pc := 69) cx qd_Z_acknowledged_69 rfl rfl ?_
      refine gz_iconst (v := 2) (pc := 70) cx qd_Z_acknowledged_70 (by decide) ?_
      refine gz_iload_n (pc := 71) cx qd_Z_acknowledged_71 rfl rfl ?_
      refine gz_iload_n (pc := 72) cx qd_Z_acknowledged_72 rfl rfl ?_
      refine gz_iload_n (pc := 73) cx qd_Z_acknowledged_73 rfl rfl ?_
      refine gz_iload_n (pc := 74) cx qd_Z_acknowledged_74 rfl rfl ?_
      refine gz_iload (pc := 75) cx qd_Z_acknowledged_75 rfl ?_
      refine gz_callV (pc := 77) cx qv_Z_123 qd_Z_acknowledged_77 (gc_zsend hi c1 hrun (Or.inr (by decide)) (fun q => absurd q (by decide)) hV.pos hV.st0) (by decide) rfl gm_Z rfl rfl rfl rfl (Nat.le_of_ble_eq_true rfl) ⟨Nat.zero_le _, Nat.zero_le _⟩ ?_
      rintro _ S2 ⟨rfl, c2, f2⟩
      refine gz_return (pc := 80) cx hr qd_Z_acknowledged_80 ?_
      exact ⟨rfl, c2, f1.tr f2⟩
  · refine gz_aload_n (pc := 5) cx qd_Z_acknowledged_5 rfl rfl ?_
    refine gz_getR (pc := 6) cx qf_Z_65 qd_Z_acknowledged_6 gm_Z rfl rfl (hst _ _ _ rfl) ?_
    refine gz_iload_n (pc := 9) cx qd_Z_acknowledged_9 rfl rfl ?_
    refine gz_aload_n (pc := 10) cx qd_Z_acknowledged_10 rfl rfl ?_
    refine gz_getR (pc := 11) cx qf_Z_65 qd_Z_acknowledged_11 gm_Z rfl rfl (hst _ _ _ rfl) ?_
    refine gz_iload_n (pc := 14) cx qd_Z_acknowledged_14 rfl rfl ?_
    refine gz_zaload (pc := 15) cx qd_Z_acknowledged_15 (gm_za (by decide) (by decide)) rfl rfl (by omega) (by decide) ?_
    refine gz_if_ne (tgt := 38) (pc := 16) cx qd_Z_acknowledged_16 (by decide) (fun h16 => ?_) (fun h16 => ?_)
    · refine gz_iconst (v := 1) (pc := 38) cx qd_Z_acknowledged_38 (by decide) ?_
      refine gz_goto (tgt := 43) (pc := 39) cx qd_Z_acknowledged_39 (by decide) ?_
      refine gz_zastore (pc := 43) cx qd_Z_acknowledged_43 (gm_za (by decide) (by decide)) rfl (by decide) rfl (by omega) (by decide) ?_
      refine gz_return (pc := 44) cx hr qd_Z_acknowledged_44 ?_
      unfold mAck
      rw [if_pos h2.symm]
      by_cases hp : mPb M i
      · have e24 := e1 hp h16
        obtain ⟨c1, f1⟩ := hD.f24 (i := i) 1
        rw [mSet_same e24] at c1
        rw [mSet_same e24]
        split <;> exact ⟨rfl, c1, f1⟩
      · obtain ⟨c1, f1⟩ := hD.n24 hp 1
        rw [if_neg (fun q => hp ⟨hrun, q.1⟩)]
        exact ⟨rfl, c1, f1⟩
    · refine gz_aload_n (pc := 19) cx qd_Z_acknowledged_19 rfl rfl ?_
      refine gz_getR (pc := 20) cx qf_Z_56 qd_Z_acknowledged_20 gm_Z rfl rfl (hst _ _ _ rfl) ?_
      refine gz_iload_n (pc := 23) cx qd_Z_acknowledged_23 rfl rfl ?_
      refine gz_zaloadV (pc := 24) cx qd_Z_acknowledged_24 (gm_za (by decide) (by decide)) rfl eP rfl (by omega) (by decide) ?_
      refine gz_if_eq (tgt := 42) (pc := 25) cx qd_Z_acknowledged_25 (by decide) (fun h25 => ?_) (fun h25 => ?_)
      · refine gz_iconst (v := 0) (pc := 42) cx qd_Z_acknowledged_42 (by decide) ?_
        refine gz_zastore (pc := 43) cx qd_Z_acknowledged_43 (gm_za (by decide) (by decide)) rfl (by decide) rfl (by omega) (by decide) ?_
        refine gz_return (pc := 44) cx hr qd_Z_acknowledged_44 ?_
        unfold mAck
        rw [if_pos h2.symm]
        have hp := hnp rfl h25
        obtain ⟨c1, f1⟩ := hD.n24 hp 0
        rw [if_neg (fun q => hp ⟨hrun, q.1⟩)]
        exact ⟨rfl, c1, f1⟩
      · refine gz_aload_n (pc := 28) cx qd_Z_acknowledged_28 rfl rfl ?_
        refine gz_getR (pc := 29) cx qf_Z_68 qd_Z_acknowledged_29 gm_Z rfl rfl (hst _ _ _ rfl) ?_
        refine gz_iload_n (pc := 32) cx qd_Z_acknowledged_32 rfl rfl ?_
        refine gz_ialoadV (pc := 33) cx qd_Z_acknowledged_33 (gm_za (by decide) (by decide)) rfl eN rfl (by omega) (by decide) ?_
        refine gz_iload_n (pc := 34) cx qd_Z_acknowledged_34 rfl rfl ?_
        refine gz_icmp_ne (tgt := 42) (pc := 35) cx qd_Z_acknowledged_35 (by decide) (fun h35 => ?_) (fun h35 => ?_)
        · refine gz_iconst (v := 0) (pc := 42) cx qd_Z_acknowledged_42 (by decide) ?_
          refine gz_zastore (pc := 43) cx qd_Z_acknowledged_43 (gm_za (by decide) (by decide)) rfl (by decide) rfl (by omega) (by decide) ?_
          refine gz_return (pc := 44) cx hr qd_Z_acknowledged_44 ?_
          unfold mAck
          rw [if_pos h2.symm]
          have hp : mPb M i := ⟨hrun, hpb rfl h25⟩
          obtain ⟨c1, f1⟩ := hD.f24 (i := i) 0
          rw [mSet_same (e0 hp h16)] at c1
          rw [if_neg (fun q => h35 q.2.symm)]
          exact ⟨rfl, c1, f1⟩
        · refine gz_iconst (v := 1) (pc := 38) cx qd_Z_acknowledged_38 (by decide) ?_
          refine gz_goto (tgt := 43) (pc := 39) cx qd_Z_acknowledged_39 (by decide) ?_
          refine gz_zastore (pc := 43) cx qd_Z_acknowledged_43 (gm_za (by decide) (by decide)) rfl (by decide) rfl (by omega) (by decide) ?_
          refine gz_return (pc := 44) cx hr qd_Z_acknowledged_44 ?_
          unfold mAck
          rw [if_pos h2.symm]
          obtain ⟨c1, f1⟩ := hD.f24 (i := i) 1
          rw [if_pos ⟨hpb rfl h25, h35.symm⟩]
          exact ⟨rfl, c1, f1⟩
theorem DR.addR {G : gG} {M : mM} {ow : Nat → Bool} {S : gS} (h : DR G M ow S) {i : Nat} {no o g : Int32} (hi : i < G.1) (hr : mRn M i) (hl : (M.2.1 i).length < 4) : DR G (mRl M i (M.2.1 i ++ [[no, o, g, 0]])) ow (gI (gI (gI (gI (gI S (35, 0, 0) (16 * i + 4 * (M.2.1 i).length) no) (35, 0, 0) (16 * i + 4 * (M.2.1 i).length + 1) o) (35, 0, 0) (16 * i + 4 * (M.2.1 i).length + 2) g) (35, 0, 0) (16 * i + 4 * (M.2.1 i).length + 3) 0) (34, 0, 0) i (nI ((M.2.1 i).length + 1))) ∧ gFc S (gI (gI (gI (gI (gI S (35, 0, 0) (16 * i + 4 * (M.2.1 i).length) no) (35, 0, 0) (16 * i + 4 * (M.2.1 i).length + 1) o) (35, 0, 0) (16 * i + 4 * (M.2.1 i).length + 2) g) (35, 0, 0) (16 * i + 4 * (M.2.1 i).length + 3) 0) (34, 0, 0) i (nI ((M.2.1 i).length + 1))) := by
  obtain ⟨d0, d1, d2, d3, d4, d5, d6, d7, d8, d9, d10, d11, d12, d13, d14, d15, d16, d17, d18, d19, d20, d21, d22, d23, d24, d25, d26⟩ := h
  have e35 : ∀ y, (gI (gI (gI (gI (gI S (35, 0, 0) (16 * i + 4 * (M.2.1 i).length) no) (35, 0, 0) (16 * i + 4 * (M.2.1 i).length + 1) o) (35, 0, 0) (16 * i + 4 * (M.2.1 i).length + 2) g) (35, 0, 0) (16 * i + 4 * (M.2.1 i).length + 3) 0) (34, 0, 0) i (nI ((M.2.1 i).length + 1))).1 (35, 0, 0) y = if y = 16 * i + 4 * (M.2.1 i).length + 3 then 0 else if y = 16 * i + 4 * (M.2.1 i).length + 2 then g else if y = 16 * i + 4 * (M.2.1 i).length + 1 then o else if y = 16 * i + 4 * (M.2.1 i).length then no else S.1 (35, 0, 0) y := fun y => by
    rw [gI1, if_neg (fun z => by simp at z), gI1, gI1, gI1, gI1]
    simp only [true_and]
  have e : DLr G (gI (gI (gI (gI (gI S (35, 0, 0) (16 * i + 4 * (M.2.1 i).length) no) (35, 0, 0) (16 * i + 4 * (M.2.1 i).length + 1) o) (35, 0, 0) (16 * i + 4 * (M.2.1 i).length + 2) g) (35, 0, 0) (16 * i + 4 * (M.2.1 i).length + 3) 0) (34, 0, 0) i (nI ((M.2.1 i).length + 1))) (mRl M i (M.2.1 i ++ [[no, o, g, 0]])) := by
    intro i' hi' hr'
    obtain ⟨c1, c2, c3⟩ := d19 i' hi' hr'
    by_cases q : i' = i
    · subst q
      rw [mRl_at, gI1, if_pos ⟨rfl, rfl⟩, List.length_append]
      refine ⟨rfl, by simp only [List.length_cons, List.length_nil]; omega, fun k' hk' f hf => ?_⟩
      simp only [List.length_cons, List.length_nil] at hk'
      rw [e35]
      by_cases z : k' < (M.2.1 i').length
      · rw [if_neg (by omega), if_neg (by omega), if_neg (by omega), if_neg (by omega), c3 k' z f hf]
        congr 1
        rw [List.getD_eq_getElem?_getD, List.getD_eq_getElem?_getD, List.getElem?_append_left z]
      · have ek : k' = (M.2.1 i').length := by omega
        subst ek
        have e1 : (M.2.1 i' ++ [[no, o, g, 0]]).getD (M.2.1 i').length [] = [no, o, g, 0] := by simp
        rw [e1]
        match f, hf with
        | 0, _ => rw [if_neg (by omega), if_neg (by omega), if_neg (by omega), if_pos (by omega)]; rfl
        | 1, _ => rw [if_neg (by omega), if_neg (by omega), if_pos (by omega)]; rfl
        | 2, _ => rw [if_neg (by omega), if_pos (by omega)]; rfl
        | 3, _ => rw [if_pos (by omega)]; rfl
        | f + 4, hf => exact absurd hf (by omega)
    · have er : (mRl M i (M.2.1 i ++ [[no, o, g, 0]])).2.1 i' = M.2.1 i' := if_neg q
      rw [er, gI1, if_neg (fun z => q z.2)]
      refine ⟨c1, c2, fun k' hk' f hf => ?_⟩
      rw [e35, if_neg (by omega), if_neg (by omega), if_neg (by omega), if_neg (by omega)]
      exact c3 k' hk' f hf
  exact ⟨⟨d0, d1, d2, d3, d4, d5, d6, d7, d8, d9, d10, d11, d12, d13, d14, d15, d16, d17, d18, e, d20, d21, d22, d23, d24, d25, d26⟩, ((((gFc.I (by simp)).tr (gFc.I (by simp))).tr (gFc.I (by simp))).tr (gFc.I (by simp))).tr (gFc.I (by simp))⟩
theorem gc_Z_help {G : gG} {la : Launch} {M : mM} {ow : Nat → Bool} {S : gS} {i : Nat} {no o g : Int32} (hi : i < G.1) (h : DR G M ow S) (hrun : mRn M i) (hV : mVt G.1 M i) : gM G la qy_Z_help qw_Z_help 3 0 0 (gTt G) (gTt G) [.inr (some (20, 0, 0)), .inl (nI i), .inl no, .inl o, .inl g] S (fun v S' => v = none ∧ DR G (mAsk G.1 M i no o g) ow S' ∧ gFc S S') := by
  refine gM_of (cc := qc_Z_help) (maxL := 6) (by decide) rfl (Nat.le_of_ble_eq_true rfl) ?_
  intro E cx hr hnm hcz hsz hEl
  subst hEl
  have hD := h
  obtain ⟨d0, d1, d2, d3, d4, d5, d6, d7, d8, d9, d10, d11, d12, d13, d14, d15, d16, d17, d18, d19, d20, d21, d22, d23, d24, d25, d26⟩ := h
  have h8 := d1.1
  have hst := d0
  obtain ⟨r1, r2, r3⟩ := d19 i hi hrun
  have e4 : nI (M.2.1 i).length = 4 ↔ (M.2.1 i).length = 4 := nI_eq (b := 4) (by omega) (by decide)
  refine gz_aload_n (pc := 0) cx qd_Z_help_0 rfl rfl ?_
  refine gz_getR (pc := 1) cx qf_Z_50 qd_Z_help_1 gm_Z rfl rfl (hst _ _ _ rfl) ?_
  refine gz_iload_n (pc := 4) cx qd_Z_help_4 rfl rfl ?_
  refine gz_ialoadV (pc := 5) cx qd_Z_help_5 (gm_za (by decide) (by decide)) rfl r1 rfl (by omega) (by decide) ?_
  refine gz_iconst (v := 4) (pc := 6) cx qd_Z_help_6 (by decide) ?_
  refine gz_icmp_ne (tgt := 11) (pc := 7) cx qd_Z_help_7 (by decide) (fun h7 => ?_) (fun h7 => ?_)
  · refine gz_bipush (v := 16) (pc := 11) cx qd_Z_help_11 (by decide) ?_
    refine gz_iload_n (pc := 13) cx qd_Z_help_13 rfl rfl ?_
    refine gz_imul (pc := 14) cx qd_Z_help_14 ?_
    refine gz_iconst (v := 4) (pc := 15) cx qd_Z_help_15 (by decide) ?_
    refine gz_aload_n (pc := 16) cx qd_Z_help_16 rfl rfl ?_
    refine gz_getR (pc := 17) cx qf_Z_50 qd_Z_help_17 gm_Z rfl rfl (hst _ _ _ rfl) ?_
    refine gz_iload_n (pc := 20) cx qd_Z_help_20 rfl rfl ?_
    refine gz_ialoadV (pc := 21) cx qd_Z_help_21 (gm_za (by decide) (by decide)) rfl r1 rfl (by omega) (by decide) ?_
    refine gz_imul (pc := 22) cx qd_Z_help_22 ?_
    refine gz_iadd (pc := 23) cx qd_Z_help_23 ?_
    rw [ix16_4]
    have h4 : (M.2.1 i).length < 4 := by
      have h7b : ¬ (M.2.1 i).length = 4 := fun q => h7 (e4.mpr q)
      omega
    obtain ⟨c1, f1⟩ := hD.addR (no := no) (o := o) (g := g) hi hrun h4
    refine gz_istore (pc := 24) cx qd_Z_help_24 (Nat.le_of_ble_eq_true rfl) ?_
    refine gz_aload_n (pc := 26) cx qd_Z_help_26 rfl rfl ?_
    refine gz_getR (pc := 27) cx qf_Z_53 qd_Z_help_27 gm_Z rfl rfl (hst _ _ _ rfl) ?_
    refine gz_iload (pc := 30) cx qd_Z_help_30 rfl ?_
    refine gz_iload_n (pc := 32) cx qd_Z_help_32 rfl rfl ?_
    refine gz_iastore (pc := 33) cx qd_Z_help_33 (gm_za (by decide) (by decide)) rfl rfl (by omega) (by decide) ?_
    refine gz_aload_n (pc := 34) cx qd_Z_help_34 rfl rfl ?_
    refine gz_getR (pc := 35) cx qf_Z_53 qd_Z_help_35 gm_Z rfl rfl (hst _ _ _ rfl) ?_
    refine gz_iload (pc := 38) cx qd_Z_help_38 rfl ?_
    refine gz_iconst (v := 1) (pc := 40) cx qd_Z_help_40 (by decide) ?_
    refine gz_iadd (pc := 41) cx qd_Z_help_41 ?_
    refine gz_iload_n (pc := 42) cx qd_Z_help_42 rfl rfl ?_
    refine gz_iastore (pc := 43) cx qd_Z_help_43 (gm_za (by decide) (by decide)) rfl (nI_add _ 1) (by omega) (by decide) ?_
    refine gz_aload_n (pc := 44) cx qd_Z_help_44 rfl rfl ?_
    refine gz_getR (pc := 45) cx qf_Z_53 qd_Z_help_45 gm_Z rfl rfl (hst _ _ _ rfl) ?_
    refine gz_iload (pc := 48) cx qd_Z_help_48 rfl ?_
    refine gz_iconst (v := 2) (pc := 50) cx qd_Z_help_50 (by decide) ?_
    refine gz_iadd (pc := 51) cx qd_Z_help_51 ?_
    refine gz_iload (pc := 52) cx qd_Z_help_52 rfl ?_
    refine gz_iastore (pc := 54) cx qd_Z_help_54 (gm_za (by decide) (by decide)) rfl (nI_add _ 2) (by omega) (by decide) ?_
    refine gz_aload_n (pc := 55) cx qd_Z_help_55 rfl rfl ?_
    refine gz_getR (pc := 56) cx qf_Z_53 qd_Z_help_56 gm_Z rfl rfl (hst _ _ _ rfl) ?_
    refine gz_iload (pc := 59) cx qd_Z_help_59 rfl ?_
    refine gz_iconst (v := 3) (pc := 61) cx qd_Z_help_61 (by decide) ?_
    refine gz_iadd (pc := 62) cx qd_Z_help_62 ?_
    refine gz_iconst (v := 0) (pc := 63) cx qd_Z_help_63 (by decide) ?_
    refine gz_iastore (pc := 64) cx qd_Z_help_64 (gm_za (by decide) (by decide)) rfl (nI_add _ 3) (by omega) (by decide) ?_
    refine gz_aload_n (pc := 65) cx qd_Z_help_65 rfl rfl ?_
    refine gz_getR (pc := 66) cx qf_Z_50 qd_Z_help_66 gm_Z rfl rfl (hst _ _ _ rfl) ?_
    refine gz_iload_n (pc := 69) cx qd_Z_help_69 rfl rfl ?_
    refine gz_dup2 (pc := 70) cx qd_Z_help_70 ?_
    refine gz_ialoadV (pc := 71) cx qd_Z_help_71 (gm_za (by decide) (by decide)) rfl (show _ = nI (M.2.1 i).length by rw [gI1, if_neg (fun z => by simp at z), gI1, if_neg (fun z => by simp at z), gI1, if_neg (fun z => by simp at z), gI1, if_neg (fun z => by simp at z)]; exact r1) rfl (by omega) (by decide) ?_
    refine gz_iconst (v := 1) (pc := 72) cx qd_Z_help_72 (by decide) ?_
    refine gz_iadd (pc := 73) cx qd_Z_help_73 ?_
    rw [nI_1]
    refine gz_iastore (pc := 74) cx qd_Z_help_74 (gm_za (by decide) (by decide)) rfl rfl (by omega) (by decide) ?_
    refine gz_aload_n (pc := 75) cx qd_Z_help_75 rfl rfl ?_
    refine gz_iconst (v := 1) (pc := 76) cx qd_Z_help_76 (by decide) ?_
    refine gz_iload_n (pc := 77) cx qd_Z_help_77 rfl rfl ?_
    refine gz_iload (pc := 78) cx qd_Z_help_78 rfl ?_
    refine gz_iload_n (pc := 80) cx qd_Z_help_80 rfl rfl ?_
    refine gz_iload_n (pc := 81) cx qd_Z_help_81 rfl rfl ?_
    refine gz_iload (pc := 82) cx qd_Z_help_82 rfl ?_
    refine gz_callV (pc := 84) cx qv_Z_123 qd_Z_help_84 (gc_zsend hi c1 hrun (Or.inr (by decide)) (fun q => absurd q (by decide)) hV.pos hV.st0) (by decide) rfl gm_Z rfl rfl rfl rfl (Nat.le_of_ble_eq_true rfl) ⟨Nat.zero_le _, Nat.zero_le _⟩ ?_
    rintro _ S2 ⟨rfl, c2, f2⟩
    refine gz_return (pc := 87) cx hr qd_Z_help_87 ?_
    unfold mAsk
    rw [if_neg (by omega)]
    exact ⟨rfl, c2, f1.tr f2⟩
  · refine gz_return (pc := 10) cx hr qd_Z_help_10 ?_
    unfold mAsk
    rw [if_pos (by have := e4.mp h7; omega)]
    exact ⟨rfl, hD, gFc.rf⟩
