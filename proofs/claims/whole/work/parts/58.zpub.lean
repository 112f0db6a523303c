theorem DR.halt {G : gG} {M : mM} {ow : Nat → Bool} {S : gS} (h : DR G M ow S) {ow' : Nat → Bool} {i : Nat} (hw : ∀ k, k ≠ i → ow k = ow' k) : DR G (mSet M 15 i 0 0) ow' (gI S (24, 0, 0) i 0) ∧ gFc S (gI S (24, 0, 0) i 0) := by
  obtain ⟨d0, d1, d2, d3, d4, d5, d6, d7, d8, d9, d10, d11, d12, d13, d14, d15, d16, d17, d18, d19, d20, d21, d22, d23, d24, d25, d26⟩ := h
  have hr : ∀ i', mRn (mSet M 15 i 0 0) i' → i' ≠ i ∧ mRn M i' := fun i' q => by
    have hne : i' ≠ i := fun z => by
      have q2 : (mSet M 15 i 0 0).1 15 i' 0 ≠ 0 := q
      rw [z, mSet_eq] at q2
      exact q2 rfl
    have q2 : (mSet M 15 i 0 0).1 15 i' 0 ≠ 0 := q
    rw [mSet_ne (fun y => hne y.2.1)] at q2
    exact ⟨hne, q2⟩
  have hp : ∀ i', mPb (mSet M 15 i 0 0) i' → mPb M i' := fun i' q => ⟨(hr i' q.1).2, q.2⟩
  have ho : ∀ i' j', mOw (mSet M 15 i 0 0) ow' i' j' → mOw M ow i' j' := fun i' j' q => ⟨(hr i' q.1).2, fun z => q.2 ⟨by rw [← hw i' (hr i' q.1).1]; exact z.1, z.2⟩⟩
  have hN : ∀ i' j', mNw (mSet M 15 i 0 0) i' j' → mNw M i' j' := fun i' j' q => ⟨(hr i' q.1).2, q.2⟩
  have e6 : C8 G (gI S (24, 0, 0) i 0) (mSet M 15 i 0 0) 24 15 (fun _ => True) := d6.set (fun _ _ _ q => q)
  have e13 : DPb G S (mSet M 15 i 0 0) := fun i' hi' q => d13 i' hi' (hr i' q).2
  have e19 : DLr G S (mSet M 15 i 0 0) := fun i' hi' q => d19 i' hi' (hr i' q).2
  have e7 : C8 G S M 25 16 (mRn (mSet M 15 i 0 0)) := d7.imp (fun i' _ q => (hr i' q).2)
  have e8 : C8 G S M 26 17 (mRn (mSet M 15 i 0 0)) := d8.imp (fun i' _ q => (hr i' q).2)
  have e9 : C8 G S M 40 20 (mRn (mSet M 15 i 0 0)) := d9.imp (fun i' _ q => (hr i' q).2)
  have e10 : C8 G S M 41 19 (mRn (mSet M 15 i 0 0)) := d10.imp (fun i' _ q => (hr i' q).2)
  have e11 : C8 G S M 44 22 (mRn (mSet M 15 i 0 0)) := d11.imp (fun i' _ q => (hr i' q).2)
  have e12 : C8 G S M 45 27 (mRn (mSet M 15 i 0 0)) := d12.imp (fun i' _ q => (hr i' q).2)
  have e14 : C8 G S M 37 21 (mPb (mSet M 15 i 0 0)) := d14.imp (fun i' _ q => hp i' q)
  have e15 : C8 G S M 38 23 (mPb (mSet M 15 i 0 0)) := d15.imp (fun i' _ q => hp i' q)
  have e16 : C8 G S M 39 24 (mPb (mSet M 15 i 0 0)) := d16.imp (fun i' _ q => hp i' q)
  have e17 : C8 G S M 42 25 (mPb (mSet M 15 i 0 0)) := d17.imp (fun i' _ q => hp i' q)
  have e18 : C8 G S M 43 26 (mPb (mSet M 15 i 0 0)) := d18.imp (fun i' _ q => hp i' q)
  have e20 : C64 G S M 27 0 (mOw (mSet M 15 i 0 0) ow') := d20.imp (fun i' j' _ _ q => ho i' j' q)
  have e21 : C64 G S M 28 1 (fun i2 _ => mRn (mSet M 15 i 0 0) i2) := d21.imp (fun i' j' _ _ q => (hr i' q).2)
  have e22 : C64 G S M 29 2 (mOw (mSet M 15 i 0 0) ow') := d22.imp (fun i' j' _ _ q => ho i' j' q)
  have e23 : C64 G S M 30 3 (mOw (mSet M 15 i 0 0) ow') := d23.imp (fun i' j' _ _ q => ho i' j' q)
  have e24 : C64 G S M 31 4 (fun i2 _ => mRn (mSet M 15 i 0 0) i2) := d24.imp (fun i' j' _ _ q => (hr i' q).2)
  have e25 : C64 G S M 32 0 (mNw (mSet M 15 i 0 0)) := d25.imp (fun i' j' _ _ q => hN i' j' q)
  have e26 : C64 G S M 33 1 (mNw (mSet M 15 i 0 0)) := d26.imp (fun i' j' _ _ q => hN i' j' q)
  exact ⟨⟨d0, d1, d2, d3, d4, d5, e6, e7, e8, e9, e10, e11, e12, e13, e14, e15, e16, e17, e18, e19, e20, e21, e22, e23, e24, e25, e26⟩, gFc.I (by simp)⟩
theorem gc_Z_crash {G : gG} {la : Launch} {M : mM} {S : gS} {x : Int32} (h : DR G M (fun _ => false) S) : gM G la qy_Z_crash qw_Z_crash 2 0 0 (gTt G) (gTt G) [.inr (some (20, 0, 0)), .inl x] S (fun v S' => v = some (.inl (bI (oCrash G.1 M x).1)) ∧ DR G (oCrash G.1 M x).2 (fun _ => false) S' ∧ gFc S S') := by
  refine gM_of (cc := qc_Z_crash) (maxL := 2) (by decide) rfl (Nat.le_of_ble_eq_true rfl) ?_
  intro E cx hr hnm hcz hsz hEl
  subst hEl
  have hD := h
  obtain ⟨d0, d1, d2, d3, d4, d5, d6, d7, d8, d9, d10, d11, d12, d13, d14, d15, d16, d17, d18, d19, d20, d21, d22, d23, d24, d25, d26⟩ := h
  have h8 := d1.1
  have hst := d0
  unfold oCrash
  refine gz_aload_n (pc := 0) cx qd_Z_crash_0 rfl rfl ?_
  refine gz_iload_n (pc := 1) cx qd_Z_crash_1 rfl rfl ?_
  refine gz_callV (pc := 2) cx qv_Z_127 qd_Z_crash_2 (gc_Z_isRunning hD) (by decide) rfl gm_Z rfl rfl rfl rfl (Nat.le_of_ble_eq_true rfl) ⟨Nat.zero_le _, Nat.zero_le _⟩ ?_
  rintro _ S9 ⟨rfl, hS9⟩
  rw [hS9]
  cases hx : mRun G.1 M x with
  | false =>
    refine gz_if_ne (tgt := 10) (pc := 5) cx qd_Z_crash_5 (by decide) (fun h5 => absurd rfl h5) (fun _ => ?_)
    refine gz_iconst (v := 0) (pc := 8) cx qd_Z_crash_8 (by decide) ?_
    refine gz_ireturn (pc := 9) cx hr (by decide) qd_Z_crash_9 ?_
    rw [if_neg (fun q => nomatch q)]
    exact ⟨rfl, hD, gFc.rf⟩
  | true =>
    have hx2 := hx
    unfold mRun at hx2
    rw [Bool.and_eq_true] at hx2
    obtain ⟨i, hi, rfl⟩ := (mIs_iff (by omega)).mp hx2.1
    rw [nI_clamp (by omega)] at hx2 ⊢
    have hr2 : mRn M i := by simpa [mRn] using hx2.2
    rw [if_pos rfl]
    obtain ⟨c1, f1⟩ := hD.halt (ow' := fun _ => false) (i := i) (fun _ _ => rfl)
    refine gz_if_ne (tgt := 10) (pc := 5) cx qd_Z_crash_5 (by decide) (fun _ => ?_) (fun h5 => absurd h5 (by decide))
    refine gz_aload_n (pc := 10) cx qd_Z_crash_10 rfl rfl ?_
    refine gz_getR (pc := 11) cx qf_Z_20 qd_Z_crash_11 gm_Z rfl rfl (hst _ _ _ rfl) ?_
    refine gz_iload_n (pc := 14) cx qd_Z_crash_14 rfl rfl ?_
    refine gz_iconst (v := 0) (pc := 15) cx qd_Z_crash_15 (by decide) ?_
    refine gz_zastore (pc := 16) cx qd_Z_crash_16 (gm_za (by decide) (by decide)) rfl (by decide) rfl (by omega) (by decide) ?_
    refine gz_iconst (v := 1) (pc := 17) cx qd_Z_crash_17 (by decide) ?_
    refine gz_ireturn (pc := 18) cx hr (by decide) qd_Z_crash_18 ?_
    exact ⟨rfl, c1, f1⟩
theorem DR.bye {G : gG} {M : mM} {S : gS} (h : DR G M (fun _ => false) S) {i : Nat} (hi : i < G.1) (hr : mRn M i) (w : Int32) : DR G (mBecome M i i 3 (M.1 1 i i) w) (owI i) (zAnn S i i 3 (M.1 1 i i)) ∧ gFc S (zAnn S i i 3 (M.1 1 i i)) := by
  obtain ⟨d0, d1, d2, d3, d4, d5, d6, d7, d8, d9, d10, d11, d12, d13, d14, d15, d16, d17, d18, d19, d20, d21, d22, d23, d24, d25, d26⟩ := h
  have h8 := d1.1
  have hm8 : i < 8 := by omega
  have n4 : ∀ i2 j2, ¬ (i2 = i ∧ j2 = i) → (mBecome M i i 3 (M.1 1 i i) w).1 4 i2 j2 = M.1 4 i2 j2 := fun i2 j2 hne => mBecome_ne hne
  have ho : ∀ i' j', mOw M (owI i) i' j' → ¬ (i' = i ∧ j' = i) := fun i' j' q z => q.2 ⟨by rw [z.1]; exact decide_eq_true rfl, by rw [z.2, z.1]⟩
  have hf : ∀ i' j', mOw M (owI i) i' j' → mOw M (fun _ => false) i' j' := fun i' j' q => ⟨q.1, fun z => nomatch z.1⟩
  have e20 : C64 G S (mSet M 0 i i 3) 27 0 (mOw M (owI i)) := fun i' j' hi' hj' q => by
    rw [mSet_ne (fun z => ho i' j' q z.2)]; exact d20 i' j' hi' hj' (hf i' j' q)
  have e21 : C64 G S (mSet M 1 i i (M.1 1 i i)) 28 1 (fun i _ => mRn M i) := d21.same (fun hi' hj' q => d21 i i hi' hj' q) (fun _ _ _ _ _ q => q)
  have e22 : C64 G S (mSet M 2 i i w) 29 2 (mOw M (owI i)) := fun i' j' hi' hj' q => by
    rw [mSet_ne (fun z => ho i' j' q z.2)]; exact d22 i' j' hi' hj' (hf i' j' q)
  have e23 : C64 G S (mSet M 3 i i 0) 30 3 (mOw M (owI i)) := fun i' j' hi' hj' q => by
    rw [mSet_ne (fun z => ho i' j' q z.2)]; exact d23 i' j' hi' hj' (hf i' j' q)
  have e24 : C64 G (gI S (31, 0, 0) (8 * i + i) 4) (mSet M 4 i i 4) 31 4 (fun i _ => mRn M i) := d24.set h8 hm8 (fun _ _ _ _ _ q => q)
  have e25 : C64 G (gI S (32, 0, 0) (8 * i + i) 3) (mSet M 0 i i 3) 32 0 (mNw (mBecome M i i 3 (M.1 1 i i) w)) := d25.set h8 hm8 (fun i2 j2 _ _ hne q => ⟨q.1, by have := q.2; rw [n4 _ _ hne] at this; exact this⟩)
  have e26 : C64 G (gI S (33, 0, 0) (8 * i + i) (M.1 1 i i)) (mSet M 1 i i (M.1 1 i i)) 33 1 (mNw (mBecome M i i 3 (M.1 1 i i) w)) := d26.set h8 hm8 (fun i2 j2 _ _ hne q => ⟨q.1, by have := q.2; rw [n4 _ _ hne] at this; exact this⟩)
  exact ⟨⟨d0, d1, d2, d3, d4, d5, d6, d7, d8, d9, d10, d11, d12, d13, d14, d15, d16, d17, d18, d19, e20, e21, e22, e23, e24, e25, e26⟩, ((gFc.I (by simp)).tr (gFc.I (by simp))).tr (gFc.I (by simp))⟩
theorem gc_Z_leave {G : gG} {la : Launch} {M : mM} {S : gS} {D : Nat} {x : Int32} (h : DR G M (fun _ => false) S) (hO : mInv G.1 D (fun _ => false) M) : gM G la qy_Z_leave qw_Z_leave 3 0 0 (gTt G) (gTt G) [.inr (some (20, 0, 0)), .inl x] S (fun v S' => v = some (.inl (bI (oLeave G.1 M x).1)) ∧ DR G (oLeave G.1 M x).2 (fun _ => false) S' ∧ gFc S S') := by
  refine gM_of (cc := qc_Z_leave) (maxL := 3) (by decide) rfl (Nat.le_of_ble_eq_true rfl) ?_
  intro E cx hr hnm hcz hsz hEl
  subst hEl
  have hD := h
  obtain ⟨d0, d1, d2, d3, d4, d5, d6, d7, d8, d9, d10, d11, d12, d13, d14, d15, d16, d17, d18, d19, d20, d21, d22, d23, d24, d25, d26⟩ := h
  have h8 := d1.1
  have hst := d0
  unfold oLeave
  refine gz_aload_n (pc := 0) cx qd_Z_leave_0 rfl rfl ?_
  refine gz_iload_n (pc := 1) cx qd_Z_leave_1 rfl rfl ?_
  refine gz_callV (pc := 2) cx qv_Z_127 qd_Z_leave_2 (gc_Z_isRunning hD) (by decide) rfl gm_Z rfl rfl rfl rfl (Nat.le_of_ble_eq_true rfl) ⟨Nat.zero_le _, Nat.zero_le _⟩ ?_
  rintro _ S9 ⟨rfl, hS9⟩
  rw [hS9]
  cases hx : mRun G.1 M x with
  | false =>
    refine gz_if_ne (tgt := 10) (pc := 5) cx qd_Z_leave_5 (by decide) (fun h5 => absurd rfl h5) (fun _ => ?_)
    refine gz_iconst (v := 0) (pc := 8) cx qd_Z_leave_8 (by decide) ?_
    refine gz_ireturn (pc := 9) cx hr (by decide) qd_Z_leave_9 ?_
    rw [if_neg (fun q => nomatch q)]
    exact ⟨rfl, hD, gFc.rf⟩
  | true =>
    have hx2 := hx
    unfold mRun at hx2
    rw [Bool.and_eq_true] at hx2
    obtain ⟨i, hi, rfl⟩ := (mIs_iff (by omega)).mp hx2.1
    rw [nI_clamp (by omega)] at hx2 ⊢
    have hr2 : mRn M i := by simpa [mRn] using hx2.2
    rw [if_pos rfl]
    have e28 := d21 i i hi hi hr2
    rw [show 8 * i + i = 9 * i by omega] at e28
    obtain ⟨c1, f1⟩ := hD.bye hi hr2 (M.1 31 0 0)
    have o1 := hO.bye (i := i) (inc := M.1 1 i i) (w := M.1 31 0 0)
    have r1 : mRn (mBecome M i i 3 (M.1 1 i i) (M.1 31 0 0)) i := by unfold mRn; rw [mBecome_1 (by decide)]; exact hr2
    have loop : ∀ k, k ≤ G.1 → ∀ S', DR G (mFareF G.1 i k (mBecome M i i 3 (M.1 1 i i) (M.1 31 0 0))) (owI i) S' → gFc S S' → gZ G E 0 0 (gEnd G E 0 0 (gTt G) (fun v S' => v = some (.inl (bI ((true, mSet (mFare G.1 M i (M.1 31 0 0)) 15 i 0 0) : Bool × mM).1)) ∧ DR G ((true, mSet (mFare G.1 M i (M.1 31 0 0)) 15 i 0 0) : Bool × mM).2 (fun _ => false) S' ∧ gFc S S')) (gTt G) 28 [some (.inr (some (20, 0, 0))), some (.inl (nI i)), some (.inl (nI k))] [] S' := by
      refine g_upto ?_ ?_
      · intro S' hD2 hF2
        have hn2 := hD2.2.2.1
        have hst2 := hD2.1
        obtain ⟨c2, f2⟩ := hD2.halt (ow' := fun _ => false) (i := i) (fun k hk => by simp [owI, hk])
        refine gz_iload_n (pc := 28) cx qd_Z_leave_28 rfl rfl ?_
        refine gz_aload_n (pc := 29) cx qd_Z_leave_29 rfl rfl ?_
        refine gz_getV (pc := 30) cx qf_Z_86 qd_Z_leave_30 gm_Z rfl rfl hn2 ?_
        refine gz_icmp_ge (tgt := 72) (pc := 33) cx qd_Z_leave_33 (by decide) (fun _ => ?_) (fun h33 => absurd (Int32.le_refl _) h33)
        refine gz_aload_n (pc := 72) cx qd_Z_leave_72 rfl rfl ?_
        refine gz_getR (pc := 73) cx qf_Z_20 qd_Z_leave_73 gm_Z rfl rfl (hst2 _ _ _ rfl) ?_
        refine gz_iload_n (pc := 76) cx qd_Z_leave_76 rfl rfl ?_
        refine gz_iconst (v := 0) (pc := 77) cx qd_Z_leave_77 (by decide) ?_
        refine gz_zastore (pc := 78) cx qd_Z_leave_78 (gm_za (by decide) (by decide)) rfl (by decide) rfl (by omega) (by decide) ?_
        refine gz_iconst (v := 1) (pc := 79) cx qd_Z_leave_79 (by decide) ?_
        refine gz_ireturn (pc := 80) cx hr (by decide) qd_Z_leave_80 ?_
        exact ⟨rfl, c2, hF2.tr f2⟩
      · intro k hk ih S' hD2 hF2
        have hn2 := hD2.2.2.1
        have hst2 := hD2.1
        have r2 : mRn (mFareF G.1 i k (mBecome M i i 3 (M.1 1 i i) (M.1 31 0 0))) i := by unfold mRn; rw [mFareF_15 (by decide)]; exact r1
        have o2 := o1.fareF hi r1 k (by omega)
        have hV := (o2.2.2.2.2 i hi r2).2.1
        have hs : mFareF G.1 i (k + 1) (mBecome M i i 3 (M.1 1 i i) (M.1 31 0 0)) = if k ≠ i ∧ (mFareF G.1 i k (mBecome M i i 3 (M.1 1 i i) (M.1 31 0 0))).1 0 i k = 1 then mSend G.1 (mFareF G.1 i k (mBecome M i i 3 (M.1 1 i i) (M.1 31 0 0))) 5 i (nI k) 0 0 0 else mFareF G.1 i k (mBecome M i i 3 (M.1 1 i i) (M.1 31 0 0)) := rfl
        rw [hs] at ih
        have hki : nI k = nI i ↔ k = i := nI_eq (by omega) (by omega)
        generalize mFareF G.1 i k (mBecome M i i 3 (M.1 1 i i) (M.1 31 0 0)) = N at hD2 r2 o2 hV ih
        have f0 : ¬ nI k = nI i → S'.1 (27, 0, 0) (8 * i + k) = N.1 0 i k := fun q => hD2.2.2.2.2.2.2.2.2.2.2.2.2.2.2.2.2.2.2.2.2.1 i k hi hk ⟨r2, fun z => q (hki.mpr z.2)⟩
        refine gz_iload_n (pc := 28) cx qd_Z_leave_28 rfl rfl ?_
        refine gz_aload_n (pc := 29) cx qd_Z_leave_29 rfl rfl ?_
        refine gz_getV (pc := 30) cx qf_Z_86 qd_Z_leave_30 gm_Z rfl rfl hn2 ?_
        refine gz_icmp_ge (tgt := 72) (pc := 33) cx qd_Z_leave_33 (by decide) (fun h33 => absurd h33 (nI_ge hk (by omega))) (fun _ => ?_)
        refine gz_iload_n (pc := 36) cx qd_Z_leave_36 rfl rfl ?_
        refine gz_iload_n (pc := 37) cx qd_Z_leave_37 rfl rfl ?_
        refine gz_icmp_eq (tgt := 66) (pc := 38) cx qd_Z_leave_38 (by decide) (fun h38 => ?_) (fun h38 => ?_)
        · refine gz_iinc (pc := 66) cx qd_Z_leave_66 rfl (g_inc k) ?_
          refine gz_goto (tgt := 28) (pc := 69) cx qd_Z_leave_69 (by decide) ?_
          rw [if_neg (fun q => q.1 (hki.mp h38))] at ih
          exact ih S' hD2 hF2
        · refine gz_aload_n (pc := 41) cx qd_Z_leave_41 rfl rfl ?_
          refine gz_getR (pc := 42) cx qf_Z_29 qd_Z_leave_42 gm_Z rfl rfl (hst2 _ _ _ rfl) ?_
          refine gz_bipush (v := 8) (pc := 45) cx qd_Z_leave_45 (by decide) ?_
          refine gz_iload_n (pc := 47) cx qd_Z_leave_47 rfl rfl ?_
          refine gz_imul (pc := 48) cx qd_Z_leave_48 ?_
          refine gz_iload_n (pc := 49) cx qd_Z_leave_49 rfl rfl ?_
          refine gz_iadd (pc := 50) cx qd_Z_leave_50 ?_
          try rw [ix8]
          refine gz_ialoadV (pc := 51) cx qd_Z_leave_51 (gm_za (by decide) (by decide)) rfl (f0 h38) rfl (by omega) (by decide) ?_
          refine gz_iconst (v := 1) (pc := 52) cx qd_Z_leave_52 (by decide) ?_
          refine gz_icmp_ne (tgt := 66) (pc := 53) cx qd_Z_leave_53 (by decide) (fun h53 => ?_) (fun h53 => ?_)
          · refine gz_iinc (pc := 66) cx qd_Z_leave_66 rfl (g_inc k) ?_
            refine gz_goto (tgt := 28) (pc := 69) cx qd_Z_leave_69 (by decide) ?_
            rw [if_neg (fun q => h53 q.2)] at ih
            exact ih S' hD2 hF2
          · refine gz_aload_n (pc := 56) cx qd_Z_leave_56 rfl rfl ?_
            refine gz_iconst (v := 5) (pc := 57) cx qd_Z_leave_57 (by decide) ?_
            refine gz_iload_n (pc := 58) cx qd_Z_leave_58 rfl rfl ?_
            refine gz_iload_n (pc := 59) cx qd_Z_leave_59 rfl rfl ?_
            refine gz_iconst (v := 0) (pc := 60) cx qd_Z_leave_60 (by decide) ?_
            refine gz_iconst (v := 0) (pc := 61) cx qd_Z_leave_61 (by decide) ?_
            refine gz_iconst (v := 0) (pc := 62) cx qd_Z_leave_62 (by decide) ?_
            refine gz_callV (pc := 63) cx qv_Z_123 qd_Z_leave_63 (gc_zsend hi hD2 r2 (Or.inr (by decide)) (fun q => absurd q (by decide)) hV.pos hV.st0) (by decide) rfl gm_Z rfl rfl rfl rfl (Nat.le_of_ble_eq_true rfl) ⟨Nat.zero_le _, Nat.zero_le _⟩ ?_
            rintro _ S3 ⟨rfl, c3, f3⟩
            refine gz_iinc (pc := 66) cx qd_Z_leave_66 rfl (g_inc k) ?_
            refine gz_goto (tgt := 28) (pc := 69) cx qd_Z_leave_69 (by decide) ?_
            rw [if_pos ⟨fun q => h38 (hki.mpr q), h53⟩] at ih
            exact ih S3 c3 (hF2.tr f3)
    refine gz_if_ne (tgt := 10) (pc := 5) cx qd_Z_leave_5 (by decide) (fun _ => ?_) (fun h5 => absurd h5 (by decide))
    refine gz_aload_n (pc := 10) cx qd_Z_leave_10 rfl rfl ?_
    refine gz_iload_n (pc := 11) cx qd_Z_leave_11 rfl rfl ?_
    refine gz_iload_n (pc := 12) cx qd_Z_leave_12 rfl rfl ?_
    refine gz_iconst (v := 3) (pc := 13) cx qd_Z_leave_13 (by decide) ?_
    refine gz_aload_n (pc := 14) cx qd_Z_leave_14 rfl rfl ?_
    refine gz_getR (pc := 15) cx qf_Z_32 qd_Z_leave_15 gm_Z rfl rfl (hst _ _ _ rfl) ?_
    refine gz_bipush (v := 9) (pc := 18) cx qd_Z_leave_18 (by decide) ?_
    refine gz_iload_n (pc := 20) cx qd_Z_leave_20 rfl rfl ?_
    refine gz_imul (pc := 21) cx qd_Z_leave_21 ?_
    try rw [ix9]
    refine gz_ialoadV (pc := 22) cx qd_Z_leave_22 (gm_za (by decide) (by decide)) rfl e28 rfl (by omega) (by decide) ?_
    refine gz_callV (pc := 23) cx qv_Z_115 qd_Z_leave_23 (gc_Z_announce (by omega) (by omega) hst) (by decide) rfl gm_Z rfl rfl rfl rfl (Nat.le_of_ble_eq_true rfl) ⟨Nat.zero_le _, Nat.zero_le _⟩ ?_
    rintro _ _ ⟨rfl, rfl⟩
    refine gz_iconst (v := 0) (pc := 26) cx qd_Z_leave_26 (by decide) ?_
    refine gz_istore_n (pc := 27) cx qd_Z_leave_27 rfl (Nat.le_of_ble_eq_true rfl) ?_
    exact loop 0 (Nat.zero_le _) _ c1 f1
theorem gc_Z_cut {G : gG} {la : Launch} {M : mM} {S : gS} {D : Nat} {x y z : Int32} (h : DR G M (fun _ => false) S) (hO : mInv G.1 D (fun _ => false) M) (hz : z = 0 ∨ z = 1) : gM G la qy_Z_cut qw_Z_cut 1 0 0 (gTt G) (gTt G) [.inr (some (20, 0, 0)), .inl x, .inl y, .inl z] S (fun v S' => v = some (.inl (bI (oCut G.1 M x y z).1)) ∧ DR G (oCut G.1 M x y z).2 (fun _ => false) S' ∧ gFc S S') := by
  refine gM_of (cc := qc_Z_cut) (maxL := 4) (by decide) rfl (Nat.le_of_ble_eq_true rfl) ?_
  intro E cx hr hnm hcz hsz hEl
  subst hEl
  have hD := h
  obtain ⟨d0, d1, d2, d3, d4, d5, d6, d7, d8, d9, d10, d11, d12, d13, d14, d15, d16, d17, d18, d19, d20, d21, d22, d23, d24, d25, d26⟩ := h
  have h8 := d1.1
  have hst := d0
  unfold oCut
  have hzz : narrow .boolean (.int z) = .int z := by rcases hz with e | e <;> subst e <;> decide
  refine gz_aload_n (pc := 0) cx qd_Z_cut_0 rfl rfl ?_
  refine gz_iload_n (pc := 1) cx qd_Z_cut_1 rfl rfl ?_
  refine gz_callV (pc := 2) cx qv_Z_90 qd_Z_cut_2 (gc_Z_isNode d2) (by decide) rfl gm_Z rfl rfl rfl rfl (Nat.le_of_ble_eq_true rfl) ⟨Nat.zero_le _, Nat.zero_le _⟩ ?_
  rintro _ S9 ⟨rfl, hS9⟩
  rw [hS9]
  cases hx : mIs G.1 x with
  | false =>
    refine gz_if_eq (tgt := 36) (pc := 5) cx qd_Z_cut_5 (by decide) (fun _ => ?_) (fun h5 => absurd rfl h5)
    refine gz_iconst (v := 0) (pc := 36) cx qd_Z_cut_36 (by decide) ?_
    refine gz_ireturn (pc := 37) cx hr (by decide) qd_Z_cut_37 ?_
    rw [if_neg (fun q => nomatch q.1)]
    exact ⟨rfl, hD, gFc.rf⟩
  | true =>
    obtain ⟨a, ha, rfl⟩ := (mIs_iff (by omega)).mp hx
    rw [nI_clamp (n := a) (by omega)]
    refine gz_if_eq (tgt := 36) (pc := 5) cx qd_Z_cut_5 (by decide) (fun h5 => absurd h5 (by decide)) (fun _ => ?_)
    refine gz_aload_n (pc := 8) cx qd_Z_cut_8 rfl rfl ?_
    refine gz_iload_n (pc := 9) cx qd_Z_cut_9 rfl rfl ?_
    refine gz_callV (pc := 10) cx qv_Z_90 qd_Z_cut_10 (gc_Z_isNode d2) (by decide) rfl gm_Z rfl rfl rfl rfl (Nat.le_of_ble_eq_true rfl) ⟨Nat.zero_le _, Nat.zero_le _⟩ ?_
    rintro _ S9 ⟨rfl, hS9⟩
    rw [hS9]
    cases hy : mIs G.1 y with
    | false =>
      refine gz_if_eq (tgt := 36) (pc := 13) cx qd_Z_cut_13 (by decide) (fun _ => ?_) (fun h13 => absurd rfl h13)
      refine gz_iconst (v := 0) (pc := 36) cx qd_Z_cut_36 (by decide) ?_
      refine gz_ireturn (pc := 37) cx hr (by decide) qd_Z_cut_37 ?_
      rw [if_neg (fun q => nomatch q.2.1)]
      exact ⟨rfl, hD, gFc.rf⟩
    | true =>
      obtain ⟨b, hb, rfl⟩ := (mIs_iff (by omega)).mp hy
      rw [nI_clamp (n := b) (by omega)]
      have e23 := d5 a b ha hb trivial
      have eB : bI (mCutB M a b) = M.1 30 a b := by
        obtain ⟨⟨v, hv, ev⟩, _⟩ := hO.2.2.2.1 a b ha hb
        unfold mCutB
        rw [ev]
        rcases (show v = 0 ∨ v = 1 by omega) with q | q <;> subst q <;> decide
      rw [eB]
      have g1 : C64 G (gI S (23, 0, 0) (8 * a + b) z) (mSet M 30 a b z) 23 30 (fun _ _ => True) := d5.set h8 (by omega) (fun _ _ _ _ _ q => q)
      have g2 : C64 G (gI (gI S (23, 0, 0) (8 * a + b) z) (23, 0, 0) (8 * b + a) z) (mSet (mSet M 30 a b z) 30 b a z) 23 30 (fun _ _ => True) := g1.set h8 (by omega) (fun _ _ _ _ _ q => q)
      refine gz_if_eq (tgt := 36) (pc := 13) cx qd_Z_cut_13 (by decide) (fun h13 => absurd h13 (by decide)) (fun _ => ?_)
      refine gz_iload_n (pc := 16) cx qd_Z_cut_16 rfl rfl ?_
      refine gz_iload_n (pc := 17) cx qd_Z_cut_17 rfl rfl ?_
      refine gz_icmp_eq (tgt := 36) (pc := 18) cx qd_Z_cut_18 (by decide) (fun h18 => ?_) (fun h18 => ?_)
      · refine gz_iconst (v := 0) (pc := 36) cx qd_Z_cut_36 (by decide) ?_
        refine gz_ireturn (pc := 37) cx hr (by decide) qd_Z_cut_37 ?_
        rw [if_neg (fun q => q.2.2.1 h18)]
        exact ⟨rfl, hD, gFc.rf⟩
      · refine gz_aload_n (pc := 21) cx qd_Z_cut_21 rfl rfl ?_
        refine gz_getR (pc := 22) cx qf_Z_16 qd_Z_cut_22 gm_Z rfl rfl (hst _ _ _ rfl) ?_
        refine gz_bipush (v := 8) (pc := 25) cx qd_Z_cut_25 (by decide) ?_
        refine gz_iload_n (pc := 27) cx qd_Z_cut_27 rfl rfl ?_
        refine gz_imul (pc := 28) cx qd_Z_cut_28 ?_
        refine gz_iload_n (pc := 29) cx qd_Z_cut_29 rfl rfl ?_
        refine gz_iadd (pc := 30) cx qd_Z_cut_30 ?_
        try rw [ix8]
        refine gz_zaloadV (pc := 31) cx qd_Z_cut_31 (gm_za (by decide) (by decide)) rfl e23 rfl (by omega) (by decide) ?_
        refine gz_iload_n (pc := 32) cx qd_Z_cut_32 rfl rfl ?_
        refine gz_icmp_ne (tgt := 38) (pc := 33) cx qd_Z_cut_33 (by decide) (fun h33 => ?_) (fun h33 => ?_)
        · refine gz_aload_n (pc := 38) cx qd_Z_cut_38 rfl rfl ?_
          refine gz_getR (pc := 39) cx qf_Z_16 qd_Z_cut_39 gm_Z rfl rfl (hst _ _ _ rfl) ?_
          refine gz_bipush (v := 8) (pc := 42) cx qd_Z_cut_42 (by decide) ?_
          refine gz_iload_n (pc := 44) cx qd_Z_cut_44 rfl rfl ?_
          refine gz_imul (pc := 45) cx qd_Z_cut_45 ?_
          refine gz_iload_n (pc := 46) cx qd_Z_cut_46 rfl rfl ?_
          refine gz_iadd (pc := 47) cx qd_Z_cut_47 ?_
          try rw [ix8]
          refine gz_iload_n (pc := 48) cx qd_Z_cut_48 rfl rfl ?_
          refine gz_zastore (pc := 49) cx qd_Z_cut_49 (gm_za (by decide) (by decide)) rfl hzz rfl (by omega) (by decide) ?_
          refine gz_aload_n (pc := 50) cx qd_Z_cut_50 rfl rfl ?_
          refine gz_getR (pc := 51) cx qf_Z_16 qd_Z_cut_51 gm_Z rfl rfl (hst _ _ _ rfl) ?_
          refine gz_bipush (v := 8) (pc := 54) cx qd_Z_cut_54 (by decide) ?_
          refine gz_iload_n (pc := 56) cx qd_Z_cut_56 rfl rfl ?_
          refine gz_imul (pc := 57) cx qd_Z_cut_57 ?_
          refine gz_iload_n (pc := 58) cx qd_Z_cut_58 rfl rfl ?_
          refine gz_iadd (pc := 59) cx qd_Z_cut_59 ?_
          try rw [ix8]
          refine gz_iload_n (pc := 60) cx qd_Z_cut_60 rfl rfl ?_
          refine gz_zastore (pc := 61) cx qd_Z_cut_61 (gm_za (by decide) (by decide)) rfl hzz rfl (by omega) (by decide) ?_
          refine gz_iconst (v := 1) (pc := 62) cx qd_Z_cut_62 (by decide) ?_
          refine gz_ireturn (pc := 63) cx hr (by decide) qd_Z_cut_63 ?_
          rw [if_pos ⟨rfl, rfl, h18, h33⟩]
          exact ⟨rfl, ⟨d0, d1, d2, d3, d4, g2, d6, d7, d8, d9, d10, d11, d12, d13, d14, d15, d16, d17, d18, d19, d20, d21, d22, d23, d24, d25, d26⟩, (gFc.I (by simp)).tr (gFc.I (by simp))⟩
        · refine gz_iconst (v := 0) (pc := 36) cx qd_Z_cut_36 (by decide) ?_
          refine gz_ireturn (pc := 37) cx hr (by decide) qd_Z_cut_37 ?_
          rw [if_neg (fun q => q.2.2.2 h33)]
          exact ⟨rfl, hD, gFc.rf⟩
theorem gc_Z_drop {G : gG} {la : Launch} {M : mM} {S : gS} {x : Int32} (h : DR G M (fun _ => false) S) : gM G la qy_Z_drop qw_Z_drop 1 0 0 (gTt G) (gTt G) [.inr (some (20, 0, 0)), .inl x] S (fun v S' => v = some (.inl (bI (mIs M.2.2.length x))) ∧ DR G (oDrop M x) (fun _ => false) S' ∧ gFc S S') := by
  refine gM_of (cc := qc_Z_drop) (maxL := 2) (by decide) rfl (Nat.le_of_ble_eq_true rfl) ?_
  intro E cx hr hnm hcz hsz hEl
  subst hEl
  have hD := h
  obtain ⟨d0, d1, d2, d3, d4, d5, d6, d7, d8, d9, d10, d11, d12, d13, d14, d15, d16, d17, d18, d19, d20, d21, d22, d23, d24, d25, d26⟩ := h
  have h8 := d1.1
  have hst := d0
  obtain ⟨c1, c2, c3⟩ := d4
  unfold oDrop
  refine gz_iload_n (pc := 0) cx qd_Z_drop_0 rfl rfl ?_
  refine gz_if_lt (tgt := 12) (pc := 1) cx qd_Z_drop_1 (by decide) (fun h1 => ?_) (fun h1 => ?_)
  · refine gz_iconst (v := 0) (pc := 12) cx qd_Z_drop_12 (by decide) ?_
    refine gz_ireturn (pc := 13) cx hr (by decide) qd_Z_drop_13 ?_
    rw [mIs_f1 h1]
    rw [if_neg (fun q => nomatch q)]
    exact ⟨rfl, hD, gFc.rf⟩
  · refine gz_iload_n (pc := 4) cx qd_Z_drop_4 rfl rfl ?_
    refine gz_aload_n (pc := 5) cx qd_Z_drop_5 rfl rfl ?_
    refine gz_getV (pc := 6) cx qf_Z_109 qd_Z_drop_6 gm_Z rfl rfl c1 ?_
    refine gz_icmp_lt (tgt := 14) (pc := 9) cx qd_Z_drop_9 (by decide) (fun h9 => ?_) (fun h9 => ?_)
    · have hx : mIs M.2.2.length x = true := decide_eq_true ⟨Int32.not_lt.mp h1, h9⟩
      obtain ⟨k, hk, rfl⟩ := (mIs_iff (by omega)).mp hx
      rw [hx, if_pos rfl, nI_clamp (by omega)]
      obtain ⟨u, hu⟩ : ∃ u, M.2.2.length = u + 1 := ⟨M.2.2.length - 1, by omega⟩
      obtain ⟨e1, f1⟩ := hD.rmF (k := k) hu (by omega)
      refine gz_aload_n (pc := 14) cx qd_Z_drop_14 rfl rfl ?_
      refine gz_iload_n (pc := 15) cx qd_Z_drop_15 rfl rfl ?_
      refine gz_callV (pc := 16) cx qv_Z_130 qd_Z_drop_16 (gc_Z_remove (k := k) (u := u) (by omega) (by omega) (by rw [c1, hu]) hst) (by decide) rfl gm_Z rfl rfl rfl rfl (Nat.le_of_ble_eq_true rfl) ⟨Nat.zero_le _, Nat.zero_le _⟩ ?_
      rintro _ _ ⟨rfl, rfl⟩
      refine gz_iconst (v := 1) (pc := 19) cx qd_Z_drop_19 (by decide) ?_
      refine gz_ireturn (pc := 20) cx hr (by decide) qd_Z_drop_20 ?_
      exact ⟨rfl, e1, f1⟩
    · refine gz_iconst (v := 0) (pc := 12) cx qd_Z_drop_12 (by decide) ?_
      refine gz_ireturn (pc := 13) cx hr (by decide) qd_Z_drop_13 ?_
      rw [mIs_f2 (Int32.not_lt.mp h9)]
      rw [if_neg (fun q => nomatch q)]
      exact ⟨rfl, hD, gFc.rf⟩
def zSp (S : gS) (k t : Nat) : gS := (fun K f => if K = (21, 0, 0) ∧ 32 * k ≤ f ∧ f < 32 * k + t then S.1 (21, 0, 0) (f + 32) else if K = (21, 0, 0) ∧ 32 * k + 32 ≤ f ∧ f < 32 * k + 32 + t then S.1 (21, 0, 0) (f - 32) else S.1 K f, S.2)
theorem zSp_0 {S : gS} {k : Nat} : zSp S k 0 = S := Prod.ext (funext fun K => funext fun f => by show (if _ then _ else if _ then _ else _) = _; rw [if_neg (by omega), if_neg (by omega)]) rfl
theorem zSp_at {S : gS} {k t f : Nat} : (zSp S k t).1 (21, 0, 0) f = if 32 * k ≤ f ∧ f < 32 * k + t then S.1 (21, 0, 0) (f + 32) else if 32 * k + 32 ≤ f ∧ f < 32 * k + 32 + t then S.1 (21, 0, 0) (f - 32) else S.1 (21, 0, 0) f := by
  unfold zSp
  simp only [true_and]
theorem zSp_o {S : gS} {k t f : Nat} {K : gK} (h : K ≠ (21, 0, 0)) : (zSp S k t).1 K f = S.1 K f := by
  unfold zSp
  show (if _ then _ else if _ then _ else _) = _
  rw [if_neg (fun q => h q.1), if_neg (fun q => h q.1)]
theorem zSp_s {S : gS} {k t : Nat} (ht : t < 32) : gI (gI (zSp S k t) (21, 0, 0) (32 * k + t) (S.1 (21, 0, 0) (32 * k + t + 32))) (21, 0, 0) (32 * k + t + 32) (S.1 (21, 0, 0) (32 * k + t)) = zSp S k (t + 1) := by
  refine Prod.ext (funext fun K => funext fun f => ?_) rfl
  rw [gI1, gI1]
  by_cases e : K = (21, 0, 0)
  · subst e
    rw [zSp_at, zSp_at]
    by_cases e1 : f = 32 * k + t + 32
    · subst e1
      rw [if_pos ⟨rfl, rfl⟩, if_neg (by omega), if_pos (by omega)]
      congr 1
    · rw [if_neg (fun z => e1 z.2)]
      by_cases e2 : f = 32 * k + t
      · subst e2
        rw [if_pos ⟨rfl, rfl⟩, if_pos (by omega)]
      · rw [if_neg (fun z => e2 z.2)]
        by_cases e3 : 32 * k ≤ f ∧ f < 32 * k + t
        · rw [if_pos e3, if_pos (by omega)]
        · rw [if_neg e3, if_neg (c := 32 * k ≤ f ∧ f < 32 * k + (t + 1)) (by omega)]
          by_cases e4 : 32 * k + 32 ≤ f ∧ f < 32 * k + 32 + t
          · rw [if_pos e4, if_pos (by omega)]
          · rw [if_neg e4, if_neg (by omega)]
  · rw [if_neg (fun z => e z.1), if_neg (fun z => e z.1), zSp_o e, zSp_o e]
theorem zSp_fc {S : gS} {k t : Nat} : gFc S (zSp S k t) := fun K hK => ⟨funext fun f => zSp_o (fun e => by rw [e] at hK; simp at hK), rfl⟩
theorem DR.swp {G : gG} {M : mM} {ow : Nat → Bool} {S : gS} (h : DR G M ow S) {k : Nat} (hk : k + 1 < M.2.2.length) : DR G (mFl M (mSwap M.2.2 k)) ow (zSp S k 32) := by
  obtain ⟨d0, d1, d2, d3, d4, d5, d6, d7, d8, d9, d10, d11, d12, d13, d14, d15, d16, d17, d18, d19, d20, d21, d22, d23, d24, d25, d26⟩ := h
  have e : DFl (zSp S k 32) (mSwap M.2.2 k) := by
    obtain ⟨c1, c2, c3⟩ := d4
    have le : (mSwap M.2.2 k).length = M.2.2.length := by unfold mSwap; rw [List.length_set, List.length_set]
    unfold DFl
    rw [le, zSp_o (by simp)]
    refine ⟨c1, c2, fun k' hk' => ?_⟩
    rw [mSwap_at hk]
    by_cases e1 : k' = k
    · subst e1
      have em : mSw k' k' = k' + 1 := if_pos rfl
      rw [em]
      obtain ⟨x1, x2⟩ := c3 (k' + 1) hk
      refine ⟨x1, fun j hj => ?_⟩
      rw [zSp_at, if_pos (by omega), show 32 * k' + j + 32 = 32 * (k' + 1) + j by omega]
      exact x2 j hj
    · by_cases e2 : k' = k + 1
      · subst e2
        have em : mSw (k + 1) k = k := by unfold mSw; rw [if_neg (by omega), if_pos rfl]
        rw [em]
        obtain ⟨x1, x2⟩ := c3 k (by omega)
        refine ⟨x1, fun j hj => ?_⟩
        rw [zSp_at, if_neg (by omega), if_pos (by omega), show 32 * (k + 1) + j - 32 = 32 * k + j by omega]
        exact x2 j hj
      · have em : mSw k' k = k' := by unfold mSw; rw [if_neg e1, if_neg e2]
        rw [em]
        obtain ⟨x1, x2⟩ := c3 k' hk'
        refine ⟨x1, fun j hj => ?_⟩
        rw [zSp_at, if_neg (by omega), if_neg (by omega)]
        exact x2 j hj
  exact ⟨d0, d1, d2, d3, e, d5, d6, d7, d8, d9, d10, d11, d12, d13, d14, d15, d16, d17, d18, d19, d20, d21, d22, d23, d24, d25, d26⟩
theorem gc_Z_swap {G : gG} {la : Launch} {M : mM} {S : gS} {x : Int32} (h : DR G M (fun _ => false) S) : gM G la qy_Z_swap qw_Z_swap 0 0 0 (gTt G) (gTt G) [.inr (some (20, 0, 0)), .inl x] S (fun v S' => v = some (.inl (bI (mIs (M.2.2.length - 1) x))) ∧ DR G (oSwap M x) (fun _ => false) S' ∧ gFc S S') := by
  refine gM_of (cc := qc_Z_swap) (maxL := 4) (by decide) rfl (Nat.le_of_ble_eq_true rfl) ?_
  intro E cx hr hnm hcz hsz hEl
  subst hEl
  have hD := h
  obtain ⟨d0, d1, d2, d3, d4, d5, d6, d7, d8, d9, d10, d11, d12, d13, d14, d15, d16, d17, d18, d19, d20, d21, d22, d23, d24, d25, d26⟩ := h
  have h8 := d1.1
  have hst := d0
  obtain ⟨c1, c2, c3⟩ := d4
  unfold oSwap
  have eZ : x < nI M.2.2.length - 1 → ¬ x < 0 → ∃ k, k + 1 < M.2.2.length ∧ x = nI k := fun q1 q2 => by
    obtain ⟨k, hk, rfl⟩ := nI_of q2
    refine ⟨k, ?_, rfl⟩
    cases hl : M.2.2.length with
    | zero =>
      rw [hl] at q1
      exact absurd q1 (fun z => q2 (Int32.lt_trans z (by decide)))
    | succ u =>
      rw [hl, nI_pred] at q1
      have := (nI_ltI hk (by omega)).mp q1
      omega
  have eN : ¬ x < nI M.2.2.length - 1 → ¬ x < 0 → mIs (M.2.2.length - 1) x = false := fun q1 q2 => by
    cases hq : mIs (M.2.2.length - 1) x with
    | false => rfl
    | true =>
      obtain ⟨k, hk, rfl⟩ := (mIs_iff (by omega)).mp hq
      obtain ⟨u, hu⟩ : ∃ u, M.2.2.length = u + 1 := ⟨M.2.2.length - 1, by omega⟩
      rw [hu, nI_pred] at q1
      exact absurd (nI_lt (by omega) (by omega)) q1
  refine gz_iload_n (pc := 0) cx qd_Z_swap_0 rfl rfl ?_
  refine gz_if_lt (tgt := 14) (pc := 1) cx qd_Z_swap_1 (by decide) (fun h1 => ?_) (fun h1 => ?_)
  · refine gz_iconst (v := 0) (pc := 14) cx qd_Z_swap_14 (by decide) ?_
    refine gz_ireturn (pc := 15) cx hr (by decide) qd_Z_swap_15 ?_
    rw [mIs_f1 h1]
    rw [if_neg (fun q => nomatch q)]
    exact ⟨rfl, hD, gFc.rf⟩
  · refine gz_iload_n (pc := 4) cx qd_Z_swap_4 rfl rfl ?_
    refine gz_aload_n (pc := 5) cx qd_Z_swap_5 rfl rfl ?_
    refine gz_getV (pc := 6) cx qf_Z_109 qd_Z_swap_6 gm_Z rfl rfl c1 ?_
    refine gz_iconst (v := 1) (pc := 9) cx qd_Z_swap_9 (by decide) ?_
    refine gz_isub (pc := 10) cx qd_Z_swap_10 ?_
    refine gz_icmp_lt (tgt := 16) (pc := 11) cx qd_Z_swap_11 (by decide) (fun h11 => ?_) (fun h11 => ?_)
    · obtain ⟨k, hk, rfl⟩ := eZ h11 h1
      rw [mIs_nI (n := M.2.2.length - 1) (by omega) (by omega), if_pos rfl, nI_clamp (by omega)]
      have e1 := hD.swp hk
      suffices hh : ∀ t, t ≤ 32 → (fun t => gZ G E 0 0 (gEnd G E 0 0 (gTt G) (fun v S' => v = some (.inl (bI true)) ∧ DR G (mFl M (mSwap M.2.2 k)) (fun _ => false) S' ∧ gFc S S')) (gTt G) 21 [some (.inr (some (20, 0, 0))), some (.inl (nI k)), some (.inl (nI (32 * k + t))), none] [] (zSp S k t)) t by
        refine gz_bipush (v := 32) (pc := 16) cx qd_Z_swap_16 (by decide) ?_
        refine gz_iload_n (pc := 18) cx qd_Z_swap_18 rfl rfl ?_
        refine gz_imul (pc := 19) cx qd_Z_swap_19 ?_
        rw [ix32m]
        refine gz_istore_n (pc := 20) cx qd_Z_swap_20 rfl (Nat.le_of_ble_eq_true rfl) ?_
        have h0 := hh 0 (Nat.zero_le _)
        dsimp only at h0
        rw [Nat.add_zero, zSp_0] at h0
        exact h0
      refine g_upto ?_ ?_
      · refine gz_iload_n (pc := 21) cx qd_Z_swap_21 rfl rfl ?_
        refine gz_bipush (v := 32) (pc := 22) cx qd_Z_swap_22 (by decide) ?_
        refine gz_iload_n (pc := 24) cx qd_Z_swap_24 rfl rfl ?_
        refine gz_imul (pc := 25) cx qd_Z_swap_25 ?_
        refine gz_bipush (v := 32) (pc := 26) cx qd_Z_swap_26 (by decide) ?_
        refine gz_iadd (pc := 28) cx qd_Z_swap_28 ?_
        try rw [ix32]
        rw [ix32m, show nI (32 * k) + 32 = nI (32 * k + 32) from nI_add _ 32]
        refine gz_icmp_ge (tgt := 70) (pc := 29) cx qd_Z_swap_29 (by decide) (fun _ => ?_) (fun h29 => absurd (Int32.le_refl _) h29)
        refine gz_iconst (v := 1) (pc := 70) cx qd_Z_swap_70 (by decide) ?_
        refine gz_ireturn (pc := 71) cx hr (by decide) qd_Z_swap_71 ?_
        exact ⟨rfl, e1, zSp_fc⟩
      · intro t ht ih
        have r1 : (zSp S k t).1 (21, 0, 0) (32 * k + t) = S.1 (21, 0, 0) (32 * k + t) := by rw [zSp_at, if_neg (by omega), if_neg (by omega)]
        have r2 : (zSp S k t).1 (21, 0, 0) (32 * k + t + 32) = S.1 (21, 0, 0) (32 * k + t + 32) := by rw [zSp_at, if_neg (by omega), if_neg (by omega)]
        refine gz_iload_n (pc := 21) cx qd_Z_swap_21 rfl rfl ?_
        refine gz_bipush (v := 32) (pc := 22) cx qd_Z_swap_22 (by decide) ?_
        refine gz_iload_n (pc := 24) cx qd_Z_swap_24 rfl rfl ?_
        refine gz_imul (pc := 25) cx qd_Z_swap_25 ?_
        refine gz_bipush (v := 32) (pc := 26) cx qd_Z_swap_26 (by decide) ?_
        refine gz_iadd (pc := 28) cx qd_Z_swap_28 ?_
        try rw [ix32]
        rw [ix32m, show nI (32 * k) + 32 = nI (32 * k + 32) from nI_add _ 32]
        refine gz_icmp_ge (tgt := 70) (pc := 29) cx qd_Z_swap_29 (by decide) (fun h29 => absurd h29 (nI_ge (by omega) (by omega))) (fun _ => ?_)
        refine gz_aload_n (pc := 32) cx qd_Z_swap_32 rfl rfl ?_
        refine gz_getR (pc := 33) cx qf_Z_7 qd_Z_swap_33 gm_Z rfl rfl (show (zSp S k t).2 (20, 0, 0) _ = _ from hst _ _ _ rfl) ?_
        refine gz_iload_n (pc := 36) cx qd_Z_swap_36 rfl rfl ?_
        refine gz_ialoadV (pc := 37) cx qd_Z_swap_37 (gm_za (by decide) (by decide)) rfl r1 rfl (by omega) (by decide) ?_
        refine gz_istore_n (pc := 38) cx qd_Z_swap_38 rfl (Nat.le_of_ble_eq_true rfl) ?_
        refine gz_aload_n (pc := 39) cx qd_Z_swap_39 rfl rfl ?_
        refine gz_getR (pc := 40) cx qf_Z_7 qd_Z_swap_40 gm_Z rfl rfl (show (zSp S k t).2 (20, 0, 0) _ = _ from hst _ _ _ rfl) ?_
        refine gz_iload_n (pc := 43) cx qd_Z_swap_43 rfl rfl ?_
        refine gz_aload_n (pc := 44) cx qd_Z_swap_44 rfl rfl ?_
        refine gz_getR (pc := 45) cx qf_Z_7 qd_Z_swap_45 gm_Z rfl rfl (show (zSp S k t).2 (20, 0, 0) _ = _ from hst _ _ _ rfl) ?_
        refine gz_iload_n (pc := 48) cx qd_Z_swap_48 rfl rfl ?_
        refine gz_bipush (v := 32) (pc := 49) cx qd_Z_swap_49 (by decide) ?_
        refine gz_iadd (pc := 51) cx qd_Z_swap_51 ?_
        refine gz_ialoadV (pc := 52) cx qd_Z_swap_52 (gm_za (by decide) (by decide)) rfl r2 (nI_add _ 32) (by omega) (by decide) ?_
        refine gz_iastore (pc := 53) cx qd_Z_swap_53 (gm_za (by decide) (by decide)) rfl rfl (by omega) (by decide) ?_
        refine gz_aload_n (pc := 54) cx qd_Z_swap_54 rfl rfl ?_
        refine gz_getR (pc := 55) cx qf_Z_7 qd_Z_swap_55 gm_Z rfl rfl (show (zSp S k t).2 (20, 0, 0) _ = _ from hst _ _ _ rfl) ?_
        refine gz_iload_n (pc := 58) cx qd_Z_swap_58 rfl rfl ?_
        refine gz_bipush (v := 32) (pc := 59) cx qd_Z_swap_59 (by decide) ?_
        refine gz_iadd (pc := 61) cx qd_Z_swap_61 ?_
        refine gz_iload_n (pc := 62) cx qd_Z_swap_62 rfl rfl ?_
        refine gz_iastore (pc := 63) cx qd_Z_swap_63 (gm_za (by decide) (by decide)) rfl (nI_add _ 32) (by omega) (by decide) ?_
        refine gz_iinc (pc := 64) cx qd_Z_swap_64 rfl (g_inc _) ?_
        refine gz_goto (tgt := 21) (pc := 67) cx qd_Z_swap_67 (by decide) ?_
        rw [zSp_s ht]
        refine gz_weak (lv' := [some (.inr (some (20, 0, 0))), some (.inl (nI k)), some (.inl (nI (32 * k + (t + 1)))), none]) ⟨rfl, rfl, rfl, trivial⟩ ?_
        exact ih
    · refine gz_iconst (v := 0) (pc := 14) cx qd_Z_swap_14 (by decide) ?_
      refine gz_ireturn (pc := 15) cx hr (by decide) qd_Z_swap_15 ?_
      rw [eN h11 h1]
      rw [if_neg (fun q => nomatch q)]
      exact ⟨rfl, hD, gFc.rf⟩
