theorem zMx0 {a k : Nat} (ha : a ≤ 2) (hk : k < 2 ^ 30) (h : nI a ≤ nI k) : (if 0 < nI a - nI k then nI a - nI k else 0) = 0 := by
  have h' : a ≤ k := (nI_leI (by omega) (by omega)).mp h
  by_cases e : a = k
  · subst e
    rw [pk_sub (Nat.le_refl _), Nat.sub_self]; rfl
  · rw [if_neg (Int32.lt_asymm (pk_sneg hk (by omega)))]
theorem zMx1 {a k : Nat} (ha : a ≤ 2) (hk : k < 2 ^ 30) (h : ¬ nI a ≤ nI k) : mMax0 (nI a - nI k) = nI a - nI k := by
  have h' : ¬ a ≤ k := fun q => h (nI_le q (by omega))
  unfold mMax0
  rw [pk_sub (by omega), if_pos]
  exact nI_lt (a := 0) (by omega) (by omega)
def zLim (s : Int32) : Int32 := if s < 0 then 0 else if s ≤ 4 then s else 4
theorem zLim_a : ∀ s, s ≤ 4 → ∀ b, b ≤ 2 → zLim (nI s + nI b) = mMin4 (nI s + nI b) := by decide +kernel
theorem zLim_b : ∀ s, s ≤ 4 → zLim (nI s - 1) = mMax0 (nI s - 1) := by decide +kernel
def zBy (M : mM) (i : Nat) : Int32 := if M.1 25 i 0 = 0 then 1 else mMax0 (M.1 25 i 0 - M.1 26 i 0)
def zSc (M : mM) (i : Nat) : Int32 := if M.1 24 i 0 = 0 then mMin4 (M.1 17 i 0 + zBy M i) else mMax0 (M.1 17 i 0 - 1)
theorem mEnd_eq {M : mM} {i t : Nat} {w : Int32} (ht : t < 2 ^ 31) (et : M.1 21 i 0 = nI t) : mEnd M i w = (fun M1 : mM => mSet (mSet (mSet (mSet M1 21 i 0 (-1)) 23 i 0 0) 24 i 0 0) 19 i 0 (1 + M1.1 17 i 0)) (if M.1 24 i 0 = 0 then (if M.1 0 i t = 1 then mSet (mBecome (mSet M 17 i 0 (zSc M i)) i t 2 (M.1 1 i t) w) 3 i t (mBit (nI i)) else mSet M 17 i 0 (zSc M i)) else mSet M 17 i 0 (zSc M i)) := by
  unfold mEnd zSc zBy
  rw [et, nI_clamp ht]
  by_cases e : M.1 24 i 0 = 0
  · simp only [e, if_true]
  · simp only [e, if_false]
theorem gc_Z_end {G : gG} {la : Launch} {M : mM} {ow : Nat → Bool} {S : gS} {i t a k s : Nat} (hi : i < G.1) (h : DR G M ow S) (hrun : mRn M i) (how : ow i = false) (ht : t < G.1) (et : M.1 21 i 0 = nI t) (ha : a ≤ 2) (ea : M.1 25 i 0 = nI a) (hk : k < 2 ^ 30) (ek : M.1 26 i 0 = nI k) (hs : s ≤ 4) (es : M.1 17 i 0 = nI s) : gM G la qy_Z_end qw_Z_end 2 0 0 (gTt G) (gTt G) [.inr (some (20, 0, 0)), .inl (nI i)] S (fun v S' => v = none ∧ DR G (mEnd M i (M.1 31 0 0)) ow S' ∧ gFc S S') := by
  refine gM_of (cc := qc_Z_end) (maxL := 5) (by decide) rfl (Nat.le_of_ble_eq_true rfl) ?_
  intro E cx hr hnm hcz hsz hEl
  subst hEl
  have hD := h
  obtain ⟨d0, d1, d2, d3, d4, d5, d6, d7, d8, d9, d10, d11, d12, d13, d14, d15, d16, d17, d18, d19, d20, d21, d22, d23, d24, d25, d26⟩ := h
  have h8 := d1.1
  have hst := d0
  have hpb : mPb M i := ⟨hrun, by rw [et]; exact isN_ne h8 ht⟩
  have e37 := (d14 i hi hpb).trans et
  have e42 := d17 i hi hpb
  have e43 := d18 i hi hpb
  have e39 := d16 i hi hpb
  have e26 := d8 i hi hrun
  have hOw : mOw M ow i t := ⟨hrun, fun q => by rw [how] at q; cases q.1⟩
  have f0 := d20 i t hi ht hOw
  have f1 := d21 i t hi ht hrun
  obtain ⟨cs, fs⟩ := hD.score (i := i) (zSc M i)
  rw [mEnd_eq (by omega) et]
  obtain ⟨b, hb, eb⟩ : isB (zBy M i) 2 := by
    unfold zBy
    rw [ea, ek]
    exact isB_by ha hk
  have fin : ∀ (M1 : mM) (S1 : gS), DR G M1 ow S1 → S1.1 (26, 0, 0) i = M1.1 17 i 0 → gFc S S1 → gZ G E 0 0 (gEnd G E 0 0 (gTt G) (fun v S' => v = none ∧ DR G (mSet (mSet (mSet (mSet M1 21 i 0 (-1)) 23 i 0 0) 24 i 0 0) 19 i 0 (1 + M1.1 17 i 0)) ow S' ∧ gFc S S')) (gTt G) 153 [some (.inr (some (20, 0, 0))), some (.inl (nI i)), some (.inl (nI t)), none, none] [] S1 := by
    intro M1 S1 hD1 hsc hF1
    have hst := hD1.1
    obtain ⟨c1, g1⟩ := hD1.stop (i := i) (1 + M1.1 17 i 0)
    refine gz_aload_n (pc := 153) cx qd_Z_end_153 rfl rfl ?_
    refine gz_getR (pc := 154) cx qf_Z_56 qd_Z_end_154 gm_Z rfl rfl (hst _ _ _ rfl) ?_
    refine gz_iload_n (pc := 157) cx qd_Z_end_157 rfl rfl ?_
    refine gz_iconst (v := 0) (pc := 158) cx qd_Z_end_158 (by decide) ?_
    refine gz_zastore (pc := 159) cx qd_Z_end_159 (gm_za (by decide) (by decide)) rfl (by decide) rfl (by omega) (by decide) ?_
    refine gz_aload_n (pc := 160) cx qd_Z_end_160 rfl rfl ?_
    refine gz_getR (pc := 161) cx qf_Z_71 qd_Z_end_161 gm_Z rfl rfl (hst _ _ _ rfl) ?_
    refine gz_iload_n (pc := 164) cx qd_Z_end_164 rfl rfl ?_
    refine gz_iconst (v := 1) (pc := 165) cx qd_Z_end_165 (by decide) ?_
    refine gz_aload_n (pc := 166) cx qd_Z_end_166 rfl rfl ?_
    refine gz_getR (pc := 167) cx qf_Z_26 qd_Z_end_167 gm_Z rfl rfl (hst _ _ _ rfl) ?_
    refine gz_iload_n (pc := 170) cx qd_Z_end_170 rfl rfl ?_
    refine gz_ialoadV (pc := 171) cx qd_Z_end_171 (gm_za (by decide) (by decide)) rfl (show _ = M1.1 17 i 0 from hsc) rfl (by omega) (by decide) ?_
    refine gz_iadd (pc := 172) cx qd_Z_end_172 ?_
    refine gz_iastore (pc := 173) cx qd_Z_end_173 (gm_za (by decide) (by decide)) rfl rfl (by omega) (by decide) ?_
    refine gz_return (pc := 174) cx hr qd_Z_end_174 ?_
    exact ⟨rfl, c1, hF1.tr g1⟩
  have t110 : gZ G E 0 0 (gEnd G E 0 0 (gTt G) (fun v S' => v = none ∧ DR G ((fun M1 : mM => mSet (mSet (mSet (mSet M1 21 i 0 (-1)) 23 i 0 0) 24 i 0 0) 19 i 0 (1 + M1.1 17 i 0)) (if M.1 24 i 0 = 0 then (if M.1 0 i t = 1 then mSet (mBecome (mSet M 17 i 0 (zSc M i)) i t 2 (M.1 1 i t) (M.1 31 0 0)) 3 i t (mBit (nI i)) else mSet M 17 i 0 (zSc M i)) else mSet M 17 i 0 (zSc M i))) ow S' ∧ gFc S S')) (gTt G) 110 [some (.inr (some (20, 0, 0))), some (.inl (nI i)), some (.inl (nI t)), none, none] [] (gI S (26, 0, 0) i (zSc M i)) := by
    refine gz_aload_n (pc := 110) cx qd_Z_end_110 rfl rfl ?_
    refine gz_getR (pc := 111) cx qf_Z_65 qd_Z_end_111 gm_Z rfl rfl (hst _ _ _ rfl) ?_
    refine gz_iload_n (pc := 114) cx qd_Z_end_114 rfl rfl ?_
    refine gz_zaloadV (pc := 115) cx qd_Z_end_115 (gm_za (by decide) (by decide)) rfl (show _ = M.1 24 i 0 from e39) rfl (by omega) (by decide) ?_
    refine gz_if_ne (tgt := 153) (pc := 116) cx qd_Z_end_116 (by decide) (fun h116 => ?_) (fun h116 => ?_)
    · rw [if_neg h116]
      exact fin _ _ cs (show _ = _ by rw [gI1, if_pos ⟨rfl, rfl⟩, mSet_eq]) fs
    · refine gz_aload_n (pc := 119) cx qd_Z_end_119 rfl rfl ?_
      refine gz_getR (pc := 120) cx qf_Z_29 qd_Z_end_120 gm_Z rfl rfl (hst _ _ _ rfl) ?_
      refine gz_bipush (v := 8) (pc := 123) cx qd_Z_end_123 (by decide) ?_
      refine gz_iload_n (pc := 125) cx qd_Z_end_125 rfl rfl ?_
      refine gz_imul (pc := 126) cx qd_Z_end_126 ?_
      refine gz_iload_n (pc := 127) cx qd_Z_end_127 rfl rfl ?_
      refine gz_iadd (pc := 128) cx qd_Z_end_128 ?_
      try rw [ix8]
      refine gz_ialoadV (pc := 129) cx qd_Z_end_129 (gm_za (by decide) (by decide)) rfl (show _ = M.1 0 i t from f0) rfl (by omega) (by decide) ?_
      refine gz_iconst (v := 1) (pc := 130) cx qd_Z_end_130 (by decide) ?_
      refine gz_icmp_ne (tgt := 153) (pc := 131) cx qd_Z_end_131 (by decide) (fun h131 => ?_) (fun h131 => ?_)
      · rw [if_pos h116, if_neg h131]
        exact fin _ _ cs (show _ = _ by rw [gI1, if_pos ⟨rfl, rfl⟩, mSet_eq]) fs
      · refine gz_aload_n (pc := 134) cx qd_Z_end_134 rfl rfl ?_
        refine gz_iload_n (pc := 135) cx qd_Z_end_135 rfl rfl ?_
        refine gz_iload_n (pc := 136) cx qd_Z_end_136 rfl rfl ?_
        refine gz_iconst (v := 2) (pc := 137) cx qd_Z_end_137 (by decide) ?_
        refine gz_aload_n (pc := 138) cx qd_Z_end_138 rfl rfl ?_
        refine gz_getR (pc := 139) cx qf_Z_32 qd_Z_end_139 gm_Z rfl rfl (hst _ _ _ rfl) ?_
        refine gz_bipush (v := 8) (pc := 142) cx qd_Z_end_142 (by decide) ?_
        refine gz_iload_n (pc := 144) cx qd_Z_end_144 rfl rfl ?_
        refine gz_imul (pc := 145) cx qd_Z_end_145 ?_
        refine gz_iload_n (pc := 146) cx qd_Z_end_146 rfl rfl ?_
        refine gz_iadd (pc := 147) cx qd_Z_end_147 ?_
        try rw [ix8]
        refine gz_ialoadV (pc := 148) cx qd_Z_end_148 (gm_za (by decide) (by decide)) rfl (show _ = M.1 1 i t from f1) rfl (by omega) (by decide) ?_
        refine gz_iload_n (pc := 149) cx qd_Z_end_149 rfl rfl ?_
        refine gz_callV (pc := 150) cx qv_Z_119 qd_Z_end_150 (gc_Z_enter (by omega) (by omega) hst) (by decide) rfl gm_Z rfl rfl rfl rfl (Nat.le_of_ble_eq_true rfl) ⟨Nat.zero_le _, Nat.zero_le _⟩ ?_
        rintro _ _ ⟨rfl, rfl⟩
        obtain ⟨c2, g2⟩ := cs.enter (i := i) ht 2 (M.1 1 i t) (M.1 31 0 0) (mBit (nI i))
        rw [if_pos rfl, show (gI S (26, 0, 0) i (zSc M i)).1 (20, 0, 0) 1 = M.1 31 0 0 from d3]
        have c3 := mEnt_dr c2
        rw [if_pos h116, if_pos h131]
        refine fin _ _ c3 ?_ (fs.tr g2)
        show (gI S (26, 0, 0) i (zSc M i)).1 (26, 0, 0) i = _
        rw [gI1, if_pos ⟨rfl, rfl⟩, mSet_ne (by omega), mBecome_1 (by decide), mSet_eq]
  have t83 : ∀ x, zLim x = zSc M i → gZ G E 0 0 (gEnd G E 0 0 (gTt G) (fun v S' => v = none ∧ DR G ((fun M1 : mM => mSet (mSet (mSet (mSet M1 21 i 0 (-1)) 23 i 0 0) 24 i 0 0) 19 i 0 (1 + M1.1 17 i 0)) (if M.1 24 i 0 = 0 then (if M.1 0 i t = 1 then mSet (mBecome (mSet M 17 i 0 (zSc M i)) i t 2 (M.1 1 i t) (M.1 31 0 0)) 3 i t (mBit (nI i)) else mSet M 17 i 0 (zSc M i)) else mSet M 17 i 0 (zSc M i))) ow S' ∧ gFc S S')) (gTt G) 83 [some (.inr (some (20, 0, 0))), some (.inl (nI i)), some (.inl (nI t)), none, some (.inl x)] [] S := by
    intro x hx
    refine gz_aload_n (pc := 83) cx qd_Z_end_83 rfl rfl ?_
    refine gz_getR (pc := 84) cx qf_Z_26 qd_Z_end_84 gm_Z rfl rfl (hst _ _ _ rfl) ?_
    refine gz_iload_n (pc := 87) cx qd_Z_end_87 rfl rfl ?_
    refine gz_iload (pc := 88) cx qd_Z_end_88 rfl ?_
    refine gz_if_ge (tgt := 97) (pc := 90) cx qd_Z_end_90 (by decide) (fun h90 => ?_) (fun h90 => ?_)
    · refine gz_iload (pc := 97) cx qd_Z_end_97 rfl ?_
      refine gz_iconst (v := 4) (pc := 99) cx qd_Z_end_99 (by decide) ?_
      refine gz_icmp_le (tgt := 107) (pc := 100) cx qd_Z_end_100 (by decide) (fun h100 => ?_) (fun h100 => ?_)
      · refine gz_iload (pc := 107) cx qd_Z_end_107 rfl ?_
        refine gz_iastore (pc := 109) cx qd_Z_end_109 (gm_za (by decide) (by decide)) rfl rfl (by omega) (by decide) ?_
        refine gz_weak (lv' := [some (.inr (some (20, 0, 0))), some (.inl (nI i)), some (.inl (nI t)), none, none]) ⟨rfl, rfl, rfl, trivial⟩ ?_
        rw [show zLim x = x by unfold zLim; rw [if_neg (Int32.not_lt.mpr h90), if_pos h100]] at hx
        have t := t110
        rw [show gI S (26, 0, 0) i (zSc M i) = gI S (26, 0, 0) i (x) by rw [← hx]] at t
        exact t
      · refine gz_iconst (v := 4) (pc := 103) cx qd_Z_end_103 (by decide) ?_
        refine gz_goto (tgt := 109) (pc := 104) cx qd_Z_end_104 (by decide) ?_
        refine gz_iastore (pc := 109) cx qd_Z_end_109 (gm_za (by decide) (by decide)) rfl rfl (by omega) (by decide) ?_
        refine gz_weak (lv' := [some (.inr (some (20, 0, 0))), some (.inl (nI i)), some (.inl (nI t)), none, none]) ⟨rfl, rfl, rfl, trivial⟩ ?_
        rw [show zLim x = 4 by unfold zLim; rw [if_neg (Int32.not_lt.mpr h90), if_neg h100]] at hx
        have t := t110
        rw [show gI S (26, 0, 0) i (zSc M i) = gI S (26, 0, 0) i (4) by rw [← hx]] at t
        exact t
    · refine gz_iconst (v := 0) (pc := 93) cx qd_Z_end_93 (by decide) ?_
      refine gz_goto (tgt := 109) (pc := 94) cx qd_Z_end_94 (by decide) ?_
      refine gz_iastore (pc := 109) cx qd_Z_end_109 (gm_za (by decide) (by decide)) rfl rfl (by omega) (by decide) ?_
      refine gz_weak (lv' := [some (.inr (some (20, 0, 0))), some (.inl (nI i)), some (.inl (nI t)), none, none]) ⟨rfl, rfl, rfl, trivial⟩ ?_
      rw [show zLim x = 0 by unfold zLim; rw [if_pos (Int32.not_le.mp h90)]] at hx
      have t := t110
      rw [show gI S (26, 0, 0) i (zSc M i) = gI S (26, 0, 0) i (0) by rw [← hx]] at t
      exact t
  have t52 : gZ G E 0 0 (gEnd G E 0 0 (gTt G) (fun v S' => v = none ∧ DR G ((fun M1 : mM => mSet (mSet (mSet (mSet M1 21 i 0 (-1)) 23 i 0 0) 24 i 0 0) 19 i 0 (1 + M1.1 17 i 0)) (if M.1 24 i 0 = 0 then (if M.1 0 i t = 1 then mSet (mBecome (mSet M 17 i 0 (zSc M i)) i t 2 (M.1 1 i t) (M.1 31 0 0)) 3 i t (mBit (nI i)) else mSet M 17 i 0 (zSc M i)) else mSet M 17 i 0 (zSc M i))) ow S' ∧ gFc S S')) (gTt G) 52 [some (.inr (some (20, 0, 0))), some (.inl (nI i)), some (.inl (nI t)), none, none] [.inl (zBy M i)] S := by
    refine gz_istore_n (pc := 52) cx qd_Z_end_52 rfl (Nat.le_of_ble_eq_true rfl) ?_
    refine gz_aload_n (pc := 53) cx qd_Z_end_53 rfl rfl ?_
    refine gz_getR (pc := 54) cx qf_Z_65 qd_Z_end_54 gm_Z rfl rfl (hst _ _ _ rfl) ?_
    refine gz_iload_n (pc := 57) cx qd_Z_end_57 rfl rfl ?_
    refine gz_zaloadV (pc := 58) cx qd_Z_end_58 (gm_za (by decide) (by decide)) rfl e39 rfl (by omega) (by decide) ?_
    refine gz_if_eq (tgt := 73) (pc := 59) cx qd_Z_end_59 (by decide) (fun h59 => ?_) (fun h59 => ?_)
    · refine gz_aload_n (pc := 73) cx qd_Z_end_73 rfl rfl ?_
      refine gz_getR (pc := 74) cx qf_Z_26 qd_Z_end_74 gm_Z rfl rfl (hst _ _ _ rfl) ?_
      refine gz_iload_n (pc := 77) cx qd_Z_end_77 rfl rfl ?_
      refine gz_ialoadV (pc := 78) cx qd_Z_end_78 (gm_za (by decide) (by decide)) rfl e26 rfl (by omega) (by decide) ?_
      refine gz_iload_n (pc := 79) cx qd_Z_end_79 rfl rfl ?_
      refine gz_iadd (pc := 80) cx qd_Z_end_80 ?_
      refine gz_istore (pc := 81) cx qd_Z_end_81 (Nat.le_of_ble_eq_true rfl) ?_
      refine gz_weak (lv' := [some (.inr (some (20, 0, 0))), some (.inl (nI i)), some (.inl (nI t)), none, some (.inl (M.1 17 i 0 + zBy M i))]) ⟨rfl, rfl, rfl, rfl, trivial⟩ ?_
      refine t83 _ ?_
      unfold zSc
      rw [if_pos h59, es, eb]
      exact zLim_a s hs b hb
    · refine gz_aload_n (pc := 62) cx qd_Z_end_62 rfl rfl ?_
      refine gz_getR (pc := 63) cx qf_Z_26 qd_Z_end_63 gm_Z rfl rfl (hst _ _ _ rfl) ?_
      refine gz_iload_n (pc := 66) cx qd_Z_end_66 rfl rfl ?_
      refine gz_ialoadV (pc := 67) cx qd_Z_end_67 (gm_za (by decide) (by decide)) rfl e26 rfl (by omega) (by decide) ?_
      refine gz_iconst (v := 1) (pc := 68) cx qd_Z_end_68 (by decide) ?_
      refine gz_isub (pc := 69) cx qd_Z_end_69 ?_
      refine gz_goto (tgt := 81) (pc := 70) cx qd_Z_end_70 (by decide) ?_
      refine gz_istore (pc := 81) cx qd_Z_end_81 (Nat.le_of_ble_eq_true rfl) ?_
      refine gz_weak (lv' := [some (.inr (some (20, 0, 0))), some (.inl (nI i)), some (.inl (nI t)), none, some (.inl (M.1 17 i 0 - 1))]) ⟨rfl, rfl, rfl, rfl, trivial⟩ ?_
      refine t83 _ ?_
      unfold zSc
      rw [if_neg h59, es]
      exact zLim_b s hs
  refine gz_aload_n (pc := 0) cx qd_Z_end_0 rfl rfl ?_
  refine gz_getR (pc := 1) cx qf_Z_59 qd_Z_end_1 gm_Z rfl rfl (hst _ _ _ rfl) ?_
  refine gz_iload_n (pc := 4) cx qd_Z_end_4 rfl rfl ?_
  refine gz_ialoadV (pc := 5) cx qd_Z_end_5 (gm_za (by decide) (by decide)) rfl e37 rfl (by omega) (by decide) ?_
  refine gz_istore_n (pc := 6) cx qd_Z_end_6 rfl (Nat.le_of_ble_eq_true rfl) ?_
  refine gz_aload_n (pc := 7) cx qd_Z_end_7 rfl rfl ?_
  refine gz_getR (pc := 8) cx qf_Z_74 qd_Z_end_8 gm_Z rfl rfl (hst _ _ _ rfl) ?_
  refine gz_iload_n (pc := 11) cx qd_Z_end_11 rfl rfl ?_
  refine gz_ialoadV (pc := 12) cx qd_Z_end_12 (gm_za (by decide) (by decide)) rfl e42 rfl (by omega) (by decide) ?_
  refine gz_if_ne (tgt := 20) (pc := 13) cx qd_Z_end_13 (by decide) (fun h13 => ?_) (fun h13 => ?_)
  · refine gz_aload_n (pc := 20) cx qd_Z_end_20 rfl rfl ?_
    refine gz_getR (pc := 21) cx qf_Z_74 qd_Z_end_21 gm_Z rfl rfl (hst _ _ _ rfl) ?_
    refine gz_iload_n (pc := 24) cx qd_Z_end_24 rfl rfl ?_
    refine gz_ialoadV (pc := 25) cx qd_Z_end_25 (gm_za (by decide) (by decide)) rfl e42 rfl (by omega) (by decide) ?_
    refine gz_aload_n (pc := 26) cx qd_Z_end_26 rfl rfl ?_
    refine gz_getR (pc := 27) cx qf_Z_77 qd_Z_end_27 gm_Z rfl rfl (hst _ _ _ rfl) ?_
    refine gz_iload_n (pc := 30) cx qd_Z_end_30 rfl rfl ?_
    refine gz_ialoadV (pc := 31) cx qd_Z_end_31 (gm_za (by decide) (by decide)) rfl e43 rfl (by omega) (by decide) ?_
    refine gz_icmp_le (tgt := 51) (pc := 32) cx qd_Z_end_32 (by decide) (fun h32 => ?_) (fun h32 => ?_)
    · refine gz_iconst (v := 0) (pc := 51) cx qd_Z_end_51 (by decide) ?_
      refine g_swap ?_ t52
      rw [show zBy M i = 0 by unfold zBy; rw [if_neg h13, ea, ek]; rw [ea, ek] at h32; unfold mMax0; exact zMx0 ha hk h32]
      rfl
    · refine gz_aload_n (pc := 35) cx qd_Z_end_35 rfl rfl ?_
      refine gz_getR (pc := 36) cx qf_Z_74 qd_Z_end_36 gm_Z rfl rfl (hst _ _ _ rfl) ?_
      refine gz_iload_n (pc := 39) cx qd_Z_end_39 rfl rfl ?_
      refine gz_ialoadV (pc := 40) cx qd_Z_end_40 (gm_za (by decide) (by decide)) rfl e42 rfl (by omega) (by decide) ?_
      refine gz_aload_n (pc := 41) cx qd_Z_end_41 rfl rfl ?_
      refine gz_getR (pc := 42) cx qf_Z_77 qd_Z_end_42 gm_Z rfl rfl (hst _ _ _ rfl) ?_
      refine gz_iload_n (pc := 45) cx qd_Z_end_45 rfl rfl ?_
      refine gz_ialoadV (pc := 46) cx qd_Z_end_46 (gm_za (by decide) (by decide)) rfl e43 rfl (by omega) (by decide) ?_
      refine gz_isub (pc := 47) cx qd_Z_end_47 ?_
      refine gz_goto (tgt := 52) (pc := 48) cx qd_Z_end_48 (by decide) ?_
      refine g_swap ?_ t52
      rw [show zBy M i = M.1 25 i 0 - M.1 26 i 0 by unfold zBy; rw [if_neg h13, ea, ek]; rw [ea, ek] at h32; exact zMx1 ha hk h32]
      rfl
  · refine gz_iconst (v := 1) (pc := 16) cx qd_Z_end_16 (by decide) ?_
    refine gz_goto (tgt := 52) (pc := 17) cx qd_Z_end_17 (by decide) ?_
    refine g_swap ?_ t52
    rw [show zBy M i = 1 by unfold zBy; rw [if_pos h13]]
    rfl
theorem gc_Z_probe {G : gG} {la : Launch} {M : mM} {D : Nat} {ow : Nat → Bool} {S : gS} {i : Nat} (hi : i < G.1) (h : DR G M ow S) (hrun : mRn M i) (hO : mInv G.1 D ow M) (how : ow i = false) (hDD : D < 2 ^ 30) : gM G la qy_Z_probe qw_Z_probe 4 0 0 (gTt G) (gTt G) [.inr (some (20, 0, 0)), .inl (nI i)] S (fun v S' => v = none ∧ DR G (if M.1 21 i 0 = -1 then mRest G.1 M i else mGo G.1 M i (M.1 31 0 0)) ow S' ∧ gFc S S') := by
  refine gM_of (cc := qc_Z_probe) (maxL := 2) (by decide) rfl (Nat.le_of_ble_eq_true rfl) ?_
  intro E cx hr hnm hcz hsz hEl
  subst hEl
  have hD := h
  obtain ⟨d0, d1, d2, d3, d4, d5, d6, d7, d8, d9, d10, d11, d12, d13, d14, d15, d16, d17, d18, d19, d20, d21, d22, d23, d24, d25, d26⟩ := h
  have h8 := d1.1
  have hst := d0
  obtain ⟨v1, v2, v3, v4, v5⟩ := hO.2.2.2.2 i hi hrun
  have e36 := d13 i hi hrun
  by_cases hp : M.1 21 i 0 = -1
  · rw [if_pos hp]
    rw [decide_eq_false (fun z => z hp)] at e36
    obtain ⟨z1, z2, r, r1, r5, er⟩ := v5.2.2.1 hp
    obtain ⟨b, hb, eb⟩ := v1.1
    have e41 := (d10 i hi hrun).trans er
    obtain ⟨u, rfl⟩ : ∃ u, r = u + 1 := ⟨r - 1, by omega⟩
    obtain ⟨c1, f1⟩ := hD.f19 (i := i) (nI u)
    have eR : mRest G.1 M i = if nI u = 0 then mBegP G.1 (mSet M 19 i 0 (nI u)) i b else mSet M 19 i 0 (nI u) := by
      unfold mRest mBegP
      rw [er, nI_pred, eb, nI_clamp (by omega)]
      have e0 : nI u ≤ 0 ↔ nI u = 0 := (nI_leI (b := 0) (by omega) (by decide)).trans ((Nat.le_zero).trans (nI_eq (b := 0) (by omega) (by decide)).symm)
      by_cases q : nI u = 0
      · simp only [e0.mpr q, q, if_true]; rfl
      · have q' : ¬ nI u ≤ 0 := fun z => q (e0.mp z)
        simp only [q', q, if_false]
    rw [eR]
    refine gz_aload_n (pc := 0) cx qd_Z_probe_0 rfl rfl ?_
    refine gz_getR (pc := 1) cx qf_Z_56 qd_Z_probe_1 gm_Z rfl rfl (hst _ _ _ rfl) ?_
    refine gz_iload_n (pc := 4) cx qd_Z_probe_4 rfl rfl ?_
    refine gz_zaloadV (pc := 5) cx qd_Z_probe_5 (gm_za (by decide) (by decide)) rfl e36 rfl (by omega) (by decide) ?_
    refine gz_if_ne (tgt := 34) (pc := 6) cx qd_Z_probe_6 (by decide) (fun h6 => absurd rfl h6) (fun _ => ?_)
    refine gz_aload_n (pc := 9) cx qd_Z_probe_9 rfl rfl ?_
    refine gz_getR (pc := 10) cx qf_Z_71 qd_Z_probe_10 gm_Z rfl rfl (hst _ _ _ rfl) ?_
    refine gz_iload_n (pc := 13) cx qd_Z_probe_13 rfl rfl ?_
    refine gz_dup2 (pc := 14) cx qd_Z_probe_14 ?_
    refine gz_ialoadV (pc := 15) cx qd_Z_probe_15 (gm_za (by decide) (by decide)) rfl e41 rfl (by omega) (by decide) ?_
    refine gz_iconst (v := 1) (pc := 16) cx qd_Z_probe_16 (by decide) ?_
    refine gz_isub (pc := 17) cx qd_Z_probe_17 ?_
    rw [nI_pred]
    refine gz_iastore (pc := 18) cx qd_Z_probe_18 (gm_za (by decide) (by decide)) rfl rfl (by omega) (by decide) ?_
    refine gz_aload_n (pc := 19) cx qd_Z_probe_19 rfl rfl ?_
    refine gz_getR (pc := 20) cx qf_Z_71 qd_Z_probe_20 gm_Z rfl rfl (hst _ _ _ rfl) ?_
    refine gz_iload_n (pc := 23) cx qd_Z_probe_23 rfl rfl ?_
    refine gz_ialoadV (pc := 24) cx qd_Z_probe_24 (gm_za (by decide) (by decide)) rfl (show _ = nI u by rw [gI1, if_pos ⟨rfl, rfl⟩]) rfl (by omega) (by decide) ?_
    refine gz_if_ne (tgt := 33) (pc := 25) cx qd_Z_probe_25 (by decide) (fun h25 => ?_) (fun h25 => ?_)
    · refine gz_return (pc := 33) cx hr qd_Z_probe_33 ?_
      rw [if_neg h25]
      exact ⟨rfl, c1, f1⟩
    · refine gz_aload_n (pc := 28) cx qd_Z_probe_28 rfl rfl ?_
      refine gz_iload_n (pc := 29) cx qd_Z_probe_29 rfl rfl ?_
      refine gz_callV (pc := 30) cx qv_Z_157 qd_Z_probe_30 (gc_Z_begin (b := b) hi c1 hrun how (v2.set (by decide)) hb eb) (by decide) rfl gm_Z rfl rfl rfl rfl (Nat.le_of_ble_eq_true rfl) ⟨Nat.zero_le _, Nat.zero_le _⟩ ?_
      rintro _ S2 ⟨rfl, c2, f2⟩
      rw [if_pos h25]
      refine gz_return (pc := 33) cx hr qd_Z_probe_33 ?_
      exact ⟨rfl, c2, f1.tr f2⟩
  · rw [if_neg hp]
    rw [decide_eq_true hp] at e36
    have hpb : mPb M i := ⟨hrun, hp⟩
    obtain ⟨q0, c, a, k, q1, q2, q3, q4, q5, q6, q7⟩ := v5.2.2.2 hp
    obtain ⟨t, ht, et⟩ := v1.2.2.resolve_left hp
    obtain ⟨s, hs, es⟩ := v5.1
    have e38 := (d15 i hi hpb).trans q4
    have e39 := d16 i hi hpb
    obtain ⟨c1, f1⟩ := hD.f23 (i := i) (nI (c + 1))
    have n3 : nI (c + 1) = 3 ↔ c = 2 := (nI_eq (b := 3) (by omega) (by decide)).trans (by omega)
    have n8 : nI (c + 1) = 8 ↔ c = 7 := (nI_eq (b := 8) (by omega) (by decide)).trans (by omega)
    have l8 : nI (c + 1) < 8 ↔ c < 7 := (nI_ltI (b := 8) (by omega) (by decide)).trans (by omega)
    have eG : mGo G.1 M i (M.1 31 0 0) = if c < 7 then (if nI (c + 1) = 3 ∧ M.1 24 i 0 = 0 then mAskF G.1 i (G.1 - 1) 1 (mSet M 23 i 0 (nI (c + 1))) else mSet M 23 i 0 (nI (c + 1))) else mEnd (mSet M 23 i 0 (nI (c + 1))) i (M.1 31 0 0) := by
      unfold mGo
      rw [q4, nI_1]
      by_cases e : c < 7
      · simp only [l8.mpr e, e, if_true]
      · have e2 : ¬ (nI (c + 1) = 3 ∧ M.1 24 i 0 = 0) := fun z => by have := n3.mp z.1; omega
        have e3 : ¬ nI (c + 1) < 8 := fun z => e (l8.mp z)
        simp only [e2, e3, e, if_false]
    rw [eG]
    refine gz_aload_n (pc := 0) cx qd_Z_probe_0 rfl rfl ?_
    refine gz_getR (pc := 1) cx qf_Z_56 qd_Z_probe_1 gm_Z rfl rfl (hst _ _ _ rfl) ?_
    refine gz_iload_n (pc := 4) cx qd_Z_probe_4 rfl rfl ?_
    refine gz_zaloadV (pc := 5) cx qd_Z_probe_5 (gm_za (by decide) (by decide)) rfl e36 rfl (by omega) (by decide) ?_
    refine gz_if_ne (tgt := 34) (pc := 6) cx qd_Z_probe_6 (by decide) (fun _ => ?_) (fun h6 => absurd h6 (by decide))
    refine gz_aload_n (pc := 34) cx qd_Z_probe_34 rfl rfl ?_
    refine gz_getR (pc := 35) cx qf_Z_62 qd_Z_probe_35 gm_Z rfl rfl (hst _ _ _ rfl) ?_
    refine gz_iload_n (pc := 38) cx qd_Z_probe_38 rfl rfl ?_
    refine gz_dup2 (pc := 39) cx qd_Z_probe_39 ?_
    refine gz_ialoadV (pc := 40) cx qd_Z_probe_40 (gm_za (by decide) (by decide)) rfl e38 rfl (by omega) (by decide) ?_
    refine gz_iconst (v := 1) (pc := 41) cx qd_Z_probe_41 (by decide) ?_
    refine gz_iadd (pc := 42) cx qd_Z_probe_42 ?_
    rw [nI_1]
    refine gz_iastore (pc := 43) cx qd_Z_probe_43 (gm_za (by decide) (by decide)) rfl rfl (by omega) (by decide) ?_
    refine gz_aload_n (pc := 44) cx qd_Z_probe_44 rfl rfl ?_
    refine gz_getR (pc := 45) cx qf_Z_62 qd_Z_probe_45 gm_Z rfl rfl (hst _ _ _ rfl) ?_
    refine gz_iload_n (pc := 48) cx qd_Z_probe_48 rfl rfl ?_
    refine gz_ialoadV (pc := 49) cx qd_Z_probe_49 (gm_za (by decide) (by decide)) rfl (show _ = nI (c + 1) by rw [gI1, if_pos ⟨rfl, rfl⟩]) rfl (by omega) (by decide) ?_
    refine gz_iconst (v := 3) (pc := 50) cx qd_Z_probe_50 (by decide) ?_
    refine gz_icmp_ne (tgt := 68) (pc := 51) cx qd_Z_probe_51 (by decide) (fun h51 => ?_) (fun h51 => ?_)
    · refine gz_aload_n (pc := 68) cx qd_Z_probe_68 rfl rfl ?_
      refine gz_getR (pc := 69) cx qf_Z_62 qd_Z_probe_69 gm_Z rfl rfl (hst _ _ _ rfl) ?_
      refine gz_iload_n (pc := 72) cx qd_Z_probe_72 rfl rfl ?_
      refine gz_ialoadV (pc := 73) cx qd_Z_probe_73 (gm_za (by decide) (by decide)) rfl (show _ = nI (c + 1) by rw [gI1, if_pos ⟨rfl, rfl⟩]) rfl (by omega) (by decide) ?_
      refine gz_bipush (v := 8) (pc := 74) cx qd_Z_probe_74 (by decide) ?_
      refine gz_icmp_ne (tgt := 84) (pc := 76) cx qd_Z_probe_76 (by decide) (fun h76 => ?_) (fun h76 => ?_)
      · refine gz_return (pc := 84) cx hr qd_Z_probe_84 ?_
        rw [if_pos (by have : ¬ c = 7 := fun q => h76 (n8.mpr q); omega), if_neg (fun q => h51 q.1)]
        exact ⟨rfl, c1, f1⟩
      · refine gz_aload_n (pc := 79) cx qd_Z_probe_79 rfl rfl ?_
        refine gz_iload_n (pc := 80) cx qd_Z_probe_80 rfl rfl ?_
        refine gz_callV (pc := 81) cx qv_Z_163 qd_Z_probe_81 (gc_Z_end (t := t) (a := a) (k := k) (s := s) hi c1 hrun how ht et q2 q5 (by omega) q6 hs es) (by decide) rfl gm_Z rfl rfl rfl rfl (Nat.le_of_ble_eq_true rfl) ⟨Nat.zero_le _, Nat.zero_le _⟩ ?_
        rintro _ S3 ⟨rfl, c3, f3⟩
        refine gz_return (pc := 84) cx hr qd_Z_probe_84 ?_
        rw [if_neg (by have := n8.mp h76; omega)]
        exact ⟨rfl, c3, f1.tr f3⟩
    · refine gz_aload_n (pc := 54) cx qd_Z_probe_54 rfl rfl ?_
      refine gz_getR (pc := 55) cx qf_Z_65 qd_Z_probe_55 gm_Z rfl rfl (hst _ _ _ rfl) ?_
      refine gz_iload_n (pc := 58) cx qd_Z_probe_58 rfl rfl ?_
      refine gz_zaloadV (pc := 59) cx qd_Z_probe_59 (gm_za (by decide) (by decide)) rfl (show _ = M.1 24 i 0 from e39) rfl (by omega) (by decide) ?_
      refine gz_if_ne (tgt := 68) (pc := 60) cx qd_Z_probe_60 (by decide) (fun h60 => ?_) (fun h60 => ?_)
      · refine gz_aload_n (pc := 68) cx qd_Z_probe_68 rfl rfl ?_
        refine gz_getR (pc := 69) cx qf_Z_62 qd_Z_probe_69 gm_Z rfl rfl (hst _ _ _ rfl) ?_
        refine gz_iload_n (pc := 72) cx qd_Z_probe_72 rfl rfl ?_
        refine gz_ialoadV (pc := 73) cx qd_Z_probe_73 (gm_za (by decide) (by decide)) rfl (show _ = nI (c + 1) by rw [gI1, if_pos ⟨rfl, rfl⟩]) rfl (by omega) (by decide) ?_
        refine gz_bipush (v := 8) (pc := 74) cx qd_Z_probe_74 (by decide) ?_
        refine gz_icmp_ne (tgt := 84) (pc := 76) cx qd_Z_probe_76 (by decide) (fun h76 => ?_) (fun h76 => ?_)
        · refine gz_return (pc := 84) cx hr qd_Z_probe_84 ?_
          rw [if_pos (by have : ¬ c = 7 := fun q => h76 (n8.mpr q); omega), if_neg (fun q => h60 q.2)]
          exact ⟨rfl, c1, f1⟩
        · refine gz_aload_n (pc := 79) cx qd_Z_probe_79 rfl rfl ?_
          refine gz_iload_n (pc := 80) cx qd_Z_probe_80 rfl rfl ?_
          refine gz_callV (pc := 81) cx qv_Z_163 qd_Z_probe_81 (gc_Z_end (t := t) (a := a) (k := k) (s := s) hi c1 hrun how ht et q2 q5 (by omega) q6 hs es) (by decide) rfl gm_Z rfl rfl rfl rfl (Nat.le_of_ble_eq_true rfl) ⟨Nat.zero_le _, Nat.zero_le _⟩ ?_
          rintro _ S3 ⟨rfl, c3, f3⟩
          refine gz_return (pc := 84) cx hr qd_Z_probe_84 ?_
          rw [if_neg (by have := n8.mp h76; omega)]
          exact ⟨rfl, c3, f1.tr f3⟩
      · refine gz_aload_n (pc := 63) cx qd_Z_probe_63 rfl rfl ?_
        refine gz_iload_n (pc := 64) cx qd_Z_probe_64 rfl rfl ?_
        refine gz_callV (pc := 65) cx qv_Z_160 qd_Z_probe_65 (gc_Z_askOthers (t := t) hi c1 hrun how (v2.set (by decide)) ht et (show M.1 25 i 0 = 0 by rw [q5, q7 (by have := n3.mp h51; omega)]; rfl)) (by decide) rfl gm_Z rfl rfl rfl rfl (Nat.le_of_ble_eq_true rfl) ⟨Nat.zero_le _, Nat.zero_le _⟩ ?_
        rintro _ S2 ⟨rfl, c2, f2⟩
        have hst2 := c2.1
        have y38 : S2.1 (38, 0, 0) i = nI (c + 1) := (c2.2.2.2.2.2.2.2.2.2.2.2.2.2.2.2.1 i hi ⟨by unfold mRn; rw [mAskF_1 (by decide) (by decide)]; exact hrun, by rw [mAskF_1 (by decide) (by decide)]; exact hp⟩).trans ((mAskF_1 (by decide) (by decide)).trans mSet_eq)
        refine gz_aload_n (pc := 68) cx qd_Z_probe_68 rfl rfl ?_
        refine gz_getR (pc := 69) cx qf_Z_62 qd_Z_probe_69 gm_Z rfl rfl (hst2 _ _ _ rfl) ?_
        refine gz_iload_n (pc := 72) cx qd_Z_probe_72 rfl rfl ?_
        refine gz_ialoadV (pc := 73) cx qd_Z_probe_73 (gm_za (by decide) (by decide)) rfl y38 rfl (by omega) (by decide) ?_
        refine gz_bipush (v := 8) (pc := 74) cx qd_Z_probe_74 (by decide) ?_
        refine gz_icmp_ne (tgt := 84) (pc := 76) cx qd_Z_probe_76 (by decide) (fun _ => ?_) (fun h76 => absurd (n8.mp h76) (by have := n3.mp h51; omega))
        refine gz_return (pc := 84) cx hr qd_Z_probe_84 ?_
        rw [if_pos (by have := n3.mp h51; omega), if_pos ⟨h51, h60⟩]
        exact ⟨rfl, c2, f1.tr f2⟩
theorem gc_Z_time {G : gG} {la : Launch} {M : mM} {D : Nat} {ow : Nat → Bool} {S : gS} {i : Nat} (hi : i < G.1) (h : DR G M ow S) (hrun : mRn M i) (hO : mInv G.1 D ow M) (how : ow i = false) (hDD : D < 2 ^ 30) : gM G la qy_Z_time qw_Z_time 5 0 0 (gTt G) (gTt G) [.inr (some (20, 0, 0)), .inl (nI i)] S (fun v S' => v = none ∧ DR G (mTimer G.1 M i (M.1 31 0 0)) ow S' ∧ gFc S S') := by
  refine gM_of (cc := qc_Z_time) (maxL := 3) (by decide) rfl (Nat.le_of_ble_eq_true rfl) ?_
  intro E cx hr hnm hcz hsz hEl
  subst hEl
  have h8 := h.2.1.1
  unfold mTimer
  simp only []
  refine gz_aload_n (pc := 0) cx qd_Z_time_0 rfl rfl ?_
  refine gz_iload_n (pc := 1) cx qd_Z_time_1 rfl rfl ?_
  refine gz_callV (pc := 2) cx qv_Z_166 qd_Z_time_2 (gc_Z_ageRelays hi h hrun hO) (by decide) rfl gm_Z rfl rfl rfl rfl (Nat.le_of_ble_eq_true rfl) ⟨Nat.zero_le _, Nat.zero_le _⟩ ?_
  rintro _ S1 ⟨rfl, c1, f1⟩
  have r1 : mRn (mAge G.1 M i) i := mAge_rn.mpr hrun
  have o1 := hO.age hi hrun
  have w1 : (mAge G.1 M i).1 31 0 0 = M.1 31 0 0 := mAgeF_1 (by decide)
  refine gz_aload_n (pc := 5) cx qd_Z_time_5 rfl rfl ?_
  refine gz_iload_n (pc := 6) cx qd_Z_time_6 rfl rfl ?_
  refine gz_callV (pc := 7) cx qv_Z_169 qd_Z_time_7 (gc_Z_expire hi c1 r1 o1 how) (by decide) rfl gm_Z rfl rfl rfl rfl (Nat.le_of_ble_eq_true rfl) ⟨Nat.zero_le _, Nat.zero_le _⟩ ?_
  rintro _ S2 ⟨rfl, c2, f2⟩
  have r2 : mRn (mBury (mAge G.1 M i) i ((mAge G.1 M i).1 31 0 0) G.1) i := mBury_rn.mpr r1
  have o2 := o1.bury (i := i) (w := (mAge G.1 M i).1 31 0 0) G.1
  have w2 : (mBury (mAge G.1 M i) i ((mAge G.1 M i).1 31 0 0) G.1).1 31 0 0 = M.1 31 0 0 := (mBury_1 (by decide)).trans w1
  rw [w1] at c2 r2 o2 w2
  generalize mBury (mAge G.1 M i) i (M.1 31 0 0) G.1 = M1 at c2 r2 o2 w2 ⊢
  refine gz_aload_n (pc := 10) cx qd_Z_time_10 rfl rfl ?_
  refine gz_iload_n (pc := 11) cx qd_Z_time_11 rfl rfl ?_
  refine gz_callV (pc := 12) cx qv_Z_172 qd_Z_time_12 (gc_Z_probe hi c2 r2 o2 how hDD) (by decide) rfl gm_Z rfl rfl rfl rfl (Nat.le_of_ble_eq_true rfl) ⟨Nat.zero_le _, Nat.zero_le _⟩ ?_
  rintro _ S3 ⟨rfl, c3, f3⟩
  rw [w2] at c3
  have r3 : mRn (if M1.1 21 i 0 = -1 then mRest G.1 M1 i else mGo G.1 M1 i (M.1 31 0 0)) i := by
    unfold mRn
    split
    · rw [mRest_15 (by omega)]; exact r2
    · rw [mGo_15 (by omega)]; exact r2
  have o3 : mInv G.1 D ow (if M1.1 21 i 0 = -1 then mRest G.1 M1 i else mGo G.1 M1 i (M.1 31 0 0)) := by
    split
    · rename_i q
      exact o2.rest hi r2 q
    · rename_i q
      exact o2.go hDD hi r2 q
  have w3 : (if M1.1 21 i 0 = -1 then mRest G.1 M1 i else mGo G.1 M1 i (M.1 31 0 0)).1 31 0 0 = M.1 31 0 0 := by
    split
    · rw [mRest_15 (by omega)]; exact w2
    · rw [mGo_15 (by omega)]; exact w2
  generalize (if M1.1 21 i 0 = -1 then mRest G.1 M1 i else mGo G.1 M1 i (M.1 31 0 0)) = M2 at c3 r3 o3 w3 ⊢
  have F3 := (f1.tr f2).tr f3
  have hst := c3.1
  have eW := c3.2.2.2.1.trans w3
  have e25 := c3.2.2.2.2.2.2.2.1 i hi r3
  obtain ⟨v1, v2, v3, v4, v5⟩ := o3.2.2.2.2 i hi r3
  obtain ⟨b, hb, eb⟩ := v1.2.1
  have e45 := (c3.2.2.2.2.2.2.2.2.2.2.2.2.1 i hi r3).trans eb
  have en : mNext G.1 b (zOk M2 i (-1) false) = mNext G.1 b (mOkS M2 i 1) := mNextF_congr (by omega) (fun m hm => zOk_1 h8 v2 hm)
  refine gz_aload_n (pc := 15) cx qd_Z_time_15 rfl rfl ?_
  refine gz_getV (pc := 16) cx qf_Z_112 qd_Z_time_16 gm_Z rfl rfl eW ?_
  refine gz_aload_n (pc := 19) cx qd_Z_time_19 rfl rfl ?_
  refine gz_getR (pc := 20) cx qf_Z_23 qd_Z_time_20 gm_Z rfl rfl (hst _ _ _ rfl) ?_
  refine gz_iload_n (pc := 23) cx qd_Z_time_23 rfl rfl ?_
  refine gz_ialoadV (pc := 24) cx qd_Z_time_24 (gm_za (by decide) (by decide)) rfl e25 rfl (by omega) (by decide) ?_
  refine gz_isub (pc := 25) cx qd_Z_time_25 ?_
  refine gz_bipush (v := 20) (pc := 26) cx qd_Z_time_26 (by decide) ?_
  refine gz_irem (pc := 28) cx qd_Z_time_28 (by decide) ?_
  refine gz_if_eq (tgt := 33) (pc := 29) cx qd_Z_time_29 (by decide) (fun h29 => ?_) (fun h29 => ?_)
  · refine gz_aload_n (pc := 33) cx qd_Z_time_33 rfl rfl ?_
    refine gz_iload_n (pc := 34) cx qd_Z_time_34 rfl rfl ?_
    refine gz_aload_n (pc := 35) cx qd_Z_time_35 rfl rfl ?_
    refine gz_getR (pc := 36) cx qf_Z_83 qd_Z_time_36 gm_Z rfl rfl (hst _ _ _ rfl) ?_
    refine gz_iload_n (pc := 39) cx qd_Z_time_39 rfl rfl ?_
    refine gz_ialoadV (pc := 40) cx qd_Z_time_40 (gm_za (by decide) (by decide)) rfl e45 rfl (by omega) (by decide) ?_
    refine gz_iconst (v := -1) (pc := 41) cx qd_Z_time_41 (by decide) ?_
    refine gz_iconst (v := 0) (pc := 42) cx qd_Z_time_42 (by decide) ?_
    refine gz_callV (pc := 43) cx qv_Z_153 qd_Z_time_43 (gc_Z_nextOf (b := b) (oth := -1) (sus := false) hi hb c3 r3 how) (by decide) rfl gm_Z rfl rfl rfl rfl (Nat.le_of_ble_eq_true rfl) ⟨Nat.zero_le _, Nat.zero_le _⟩ ?_
    rintro _ _ ⟨rfl, rfl⟩
    rw [if_pos h29]
    rw [en]
    unfold mSync
    rw [eb, nI_clamp (by omega)]
    cases hn : mNext G.1 b (mOkS M2 i 1) with
    | none =>
      refine gz_istore_n (pc := 46) cx qd_Z_time_46 rfl (Nat.le_of_ble_eq_true rfl) ?_
      refine gz_iload_n (pc := 47) cx qd_Z_time_47 rfl rfl ?_
      refine gz_if_ge (tgt := 52) (pc := 48) cx qd_Z_time_48 (by decide) (fun h48 => absurd h48 (by decide)) (fun _ => ?_)
      refine gz_return (pc := 51) cx hr qd_Z_time_51 ?_
      exact ⟨rfl, c3, F3⟩
    | some m =>
      have hmn := (mNextF_lt (by omega) hn).1
      obtain ⟨c4, f4⟩ := c3.f27 (i := i) (nI m)
      refine gz_istore_n (pc := 46) cx qd_Z_time_46 rfl (Nat.le_of_ble_eq_true rfl) ?_
      refine gz_iload_n (pc := 47) cx qd_Z_time_47 rfl rfl ?_
      refine gz_if_ge (tgt := 52) (pc := 48) cx qd_Z_time_48 (by decide) (fun _ => ?_) (fun h48 => absurd (nI_pos' (by omega)) h48)
      refine gz_aload_n (pc := 52) cx qd_Z_time_52 rfl rfl ?_
      refine gz_getR (pc := 53) cx qf_Z_83 qd_Z_time_53 gm_Z rfl rfl (hst _ _ _ rfl) ?_
      refine gz_iload_n (pc := 56) cx qd_Z_time_56 rfl rfl ?_
      refine gz_iload_n (pc := 57) cx qd_Z_time_57 rfl rfl ?_
      refine gz_iastore (pc := 58) cx qd_Z_time_58 (gm_za (by decide) (by decide)) rfl rfl (by omega) (by decide) ?_
      refine gz_aload_n (pc := 59) cx qd_Z_time_59 rfl rfl ?_
      refine gz_bipush (v := 6) (pc := 60) cx qd_Z_time_60 (by decide) ?_
      refine gz_iload_n (pc := 62) cx qd_Z_time_62 rfl rfl ?_
      refine gz_iload_n (pc := 63) cx qd_Z_time_63 rfl rfl ?_
      refine gz_iconst (v := 0) (pc := 64) cx qd_Z_time_64 (by decide) ?_
      refine gz_iconst (v := 0) (pc := 65) cx qd_Z_time_65 (by decide) ?_
      refine gz_iconst (v := 0) (pc := 66) cx qd_Z_time_66 (by decide) ?_
      refine gz_callV (pc := 67) cx qv_Z_123 qd_Z_time_67 (gc_zsend hi c4 r3 (Or.inl (Or.inl rfl)) (fun _ => how) v2.pos v2.st0) (by decide) rfl gm_Z rfl rfl rfl rfl (Nat.le_of_ble_eq_true rfl) ⟨Nat.zero_le _, Nat.zero_le _⟩ ?_
      rintro _ S5 ⟨rfl, c5, f5⟩
      refine gz_return (pc := 70) cx hr qd_Z_time_70 ?_
      exact ⟨rfl, c5, (F3.tr f4).tr f5⟩
  · refine gz_return (pc := 32) cx hr qd_Z_time_32 ?_
    rw [if_neg h29]
    exact ⟨rfl, c3, F3⟩
