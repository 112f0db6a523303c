theorem sc4 : ∀ v, v ≤ 4 → (4 : Int32) ≤ nI v → nI v + 0 = mMin4 (nI v + 1) := by decide +kernel
theorem sc3 : ∀ v, v ≤ 4 → ¬ (4 : Int32) ≤ nI v → nI v + 1 = mMin4 (nI v + 1) := by decide +kernel
/-- M is known by its numbers -/
theorem mM_ext {M M' : mM} (h1 : ∀ f i j, M.1 f i j = M'.1 f i j) (h2 : M.2 = M'.2) : M = M' := Prod.ext (funext fun f => funext fun i => funext fun j => h1 f i j) h2
theorem mEnt_dr {G : gG} {M : mM} {ow : Nat → Bool} {S : gS} {i m : Nat} {inc w cf : Int32} (h : DR G (mSet (mSet (mSet (mSet (mSet M 0 i m 2) 1 i m inc) 2 i m w) 3 i m cf) 4 i m 4) ow S) : DR G (mSet (mBecome M i m 2 inc w) 3 i m cf) ow S := by
  have e : mSet (mBecome M i m 2 inc w) 3 i m cf = mSet (mSet (mSet (mSet (mSet M 0 i m 2) 1 i m inc) 2 i m w) 3 i m cf) 4 i m 4 := by
    refine mM_ext (fun f i2 j2 => ?_) rfl
    by_cases e3 : f = 3 ∧ i2 = i ∧ j2 = m
    · obtain ⟨rfl, rfl, rfl⟩ := e3
      rw [mSet_eq, mSet_ne (by omega), mSet_eq]
    · rw [mSet_ne e3]
      unfold mBecome
      by_cases e4 : f = 4 ∧ i2 = i ∧ j2 = m
      · obtain ⟨rfl, rfl, rfl⟩ := e4
        rw [mSet_eq, mSet_eq]
      · rw [mSet_ne e4, mSet_ne e3, mSet_ne e4, mSet_ne e3]
  rw [e]; exact h
theorem mLrn_dr {G : gG} {M : mM} {ow : Nat → Bool} {S : gS} {i : Nat} {inc w v : Int32} (h : DR G (mSet (mBecome M i i 1 inc w) 17 i 0 v) ow S) : DR G (mSet (mSet (mBecome M i i 1 inc w) 17 i 0 v) 4 i i 4) ow S := by
  have e : mSet (mSet (mBecome M i i 1 inc w) 17 i 0 v) 4 i i 4 = mSet (mBecome M i i 1 inc w) 17 i 0 v := by
    refine mM_ext (fun f i2 j2 => ?_) rfl
    by_cases e4 : f = 4 ∧ i2 = i ∧ j2 = i
    · obtain ⟨rfl, rfl, rfl⟩ := e4
      rw [mSet_eq, mSet_ne (by omega)]
      unfold mBecome
      rw [mSet_eq]
    · rw [mSet_ne e4]
  rw [e]; exact h
/-- stores in two arrays change places -/
theorem gI_comm {S : gS} {k k' : gK} {f f' : Nat} {v v' : Int32} (h : k ≠ k') : gI (gI S k f v) k' f' v' = gI (gI S k' f' v') k f v := by
  refine Prod.ext ?_ rfl
  funext K x
  simp only [gI1]
  by_cases e : K = k ∧ x = f
  · rw [if_pos e, if_neg (fun q => h (e.1.symm.trans q.1)), if_pos e]
  · rw [if_neg e, if_neg e]
theorem zSw_eq {S : gS} {i : Nat} {inc w v : Int32} : gI (zAnn (gI (gI S (28, 0, 0) (8 * i + i) inc) (29, 0, 0) (8 * i + i) w) i i 1 inc) (26, 0, 0) i v = zAnn (gI (gI (gI S (28, 0, 0) (8 * i + i) inc) (29, 0, 0) (8 * i + i) w) (26, 0, 0) i v) i i 1 inc := by
  unfold zAnn
  rw [gI_comm (by simp), gI_comm (k' := (26, 0, 0)) (k := (32, 0, 0)) (by simp), gI_comm (k' := (26, 0, 0)) (k := (31, 0, 0)) (by simp)]
theorem zSw_fc {S : gS} {i : Nat} {inc w v : Int32} (h : gFc S (gI (zAnn (gI (gI S (28, 0, 0) (8 * i + i) inc) (29, 0, 0) (8 * i + i) w) i i 1 inc) (26, 0, 0) i v)) : gFc S (zAnn (gI (gI (gI S (28, 0, 0) (8 * i + i) inc) (29, 0, 0) (8 * i + i) w) (26, 0, 0) i v) i i 1 inc) := zSw_eq ▸ h
theorem gc_Z_announce {G : gG} {la : Launch} {S : gS} {i m : Nat} {s inc : Int32} (hi : i < 8) (hm : m < 8) (hst : gSt G S) : gM G la qy_Z_announce qw_Z_announce 0 0 0 (gTt G) (gTt G) [.inr (some (20, 0, 0)), .inl (nI i), .inl (nI m), .inl s, .inl inc] S (fun v S' => v = none ∧ S' = zAnn S i m s inc) := by
  refine gM_of (cc := qc_Z_announce) (maxL := 5) (by decide) rfl (Nat.le_of_ble_eq_true rfl) ?_
  intro E cx hr hnm hcz hsz hEl
  subst hEl
  refine gz_aload_n (pc := 0) cx qd_Z_announce_0 rfl rfl ?_
  refine gz_getR (pc := 1) cx qf_Z_41 qd_Z_announce_1 gm_Z rfl rfl (hst _ _ _ rfl) ?_
  refine gz_bipush (v := 8) (pc := 4) cx qd_Z_announce_4 (by decide) ?_
  refine gz_iload_n (pc := 6) cx qd_Z_announce_6 rfl rfl ?_
  refine gz_imul (pc := 7) cx qd_Z_announce_7 ?_
  refine gz_iload_n (pc := 8) cx qd_Z_announce_8 rfl rfl ?_
  refine gz_iadd (pc := 9) cx qd_Z_announce_9 ?_
  try rw [ix8]
  refine gz_iconst (v := 4) (pc := 10) cx qd_Z_announce_10 (by decide) ?_
  refine gz_iastore (pc := 11) cx qd_Z_announce_11 (gm_za (by decide) (by decide)) rfl rfl (by omega) (by decide) ?_
  refine gz_aload_n (pc := 12) cx qd_Z_announce_12 rfl rfl ?_
  refine gz_getR (pc := 13) cx qf_Z_44 qd_Z_announce_13 gm_Z rfl rfl (hst _ _ _ rfl) ?_
  refine gz_bipush (v := 8) (pc := 16) cx qd_Z_announce_16 (by decide) ?_
  refine gz_iload_n (pc := 18) cx qd_Z_announce_18 rfl rfl ?_
  refine gz_imul (pc := 19) cx qd_Z_announce_19 ?_
  refine gz_iload_n (pc := 20) cx qd_Z_announce_20 rfl rfl ?_
  refine gz_iadd (pc := 21) cx qd_Z_announce_21 ?_
  try rw [ix8]
  refine gz_iload_n (pc := 22) cx qd_Z_announce_22 rfl rfl ?_
  refine gz_iastore (pc := 23) cx qd_Z_announce_23 (gm_za (by decide) (by decide)) rfl rfl (by omega) (by decide) ?_
  refine gz_aload_n (pc := 24) cx qd_Z_announce_24 rfl rfl ?_
  refine gz_getR (pc := 25) cx qf_Z_47 qd_Z_announce_25 gm_Z rfl rfl (hst _ _ _ rfl) ?_
  refine gz_bipush (v := 8) (pc := 28) cx qd_Z_announce_28 (by decide) ?_
  refine gz_iload_n (pc := 30) cx qd_Z_announce_30 rfl rfl ?_
  refine gz_imul (pc := 31) cx qd_Z_announce_31 ?_
  refine gz_iload_n (pc := 32) cx qd_Z_announce_32 rfl rfl ?_
  refine gz_iadd (pc := 33) cx qd_Z_announce_33 ?_
  try rw [ix8]
  refine gz_iload (pc := 34) cx qd_Z_announce_34 rfl ?_
  refine gz_iastore (pc := 36) cx qd_Z_announce_36 (gm_za (by decide) (by decide)) rfl rfl (by omega) (by decide) ?_
  refine gz_return (pc := 37) cx hr qd_Z_announce_37 ?_
  exact ⟨rfl, rfl⟩
theorem gc_Z_enter {G : gG} {la : Launch} {S : gS} {i m : Nat} {s inc who : Int32} (hi : i < 8) (hm : m < 8) (hst : gSt G S) : gM G la qy_Z_enter qw_Z_enter 1 0 0 (gTt G) (gTt G) [.inr (some (20, 0, 0)), .inl (nI i), .inl (nI m), .inl s, .inl inc, .inl who] S (fun v S' => v = none ∧ S' = zEnt S i m s inc (S.1 (20, 0, 0) 1) (if s = 2 then mBit who else 0)) := by
  refine gM_of (cc := qc_Z_enter) (maxL := 7) (by decide) rfl (Nat.le_of_ble_eq_true rfl) ?_
  intro E cx hr hnm hcz hsz hEl
  subst hEl
  refine gz_bipush (v := 8) (pc := 0) cx qd_Z_enter_0 (by decide) ?_
  refine gz_iload_n (pc := 2) cx qd_Z_enter_2 rfl rfl ?_
  refine gz_imul (pc := 3) cx qd_Z_enter_3 ?_
  refine gz_iload_n (pc := 4) cx qd_Z_enter_4 rfl rfl ?_
  refine gz_iadd (pc := 5) cx qd_Z_enter_5 ?_
  try rw [ix8]
  refine gz_istore (pc := 6) cx qd_Z_enter_6 (Nat.le_of_ble_eq_true rfl) ?_
  refine gz_aload_n (pc := 8) cx qd_Z_enter_8 rfl rfl ?_
  refine gz_getR (pc := 9) cx qf_Z_29 qd_Z_enter_9 gm_Z rfl rfl (hst _ _ _ rfl) ?_
  refine gz_iload (pc := 12) cx qd_Z_enter_12 rfl ?_
  refine gz_iload_n (pc := 14) cx qd_Z_enter_14 rfl rfl ?_
  refine gz_iastore (pc := 15) cx qd_Z_enter_15 (gm_za (by decide) (by decide)) rfl rfl (by omega) (by decide) ?_
  refine gz_aload_n (pc := 16) cx qd_Z_enter_16 rfl rfl ?_
  refine gz_getR (pc := 17) cx qf_Z_32 qd_Z_enter_17 gm_Z rfl rfl (hst _ _ _ rfl) ?_
  refine gz_iload (pc := 20) cx qd_Z_enter_20 rfl ?_
  refine gz_iload (pc := 22) cx qd_Z_enter_22 rfl ?_
  refine gz_iastore (pc := 24) cx qd_Z_enter_24 (gm_za (by decide) (by decide)) rfl rfl (by omega) (by decide) ?_
  refine gz_aload_n (pc := 25) cx qd_Z_enter_25 rfl rfl ?_
  refine gz_getR (pc := 26) cx qf_Z_35 qd_Z_enter_26 gm_Z rfl rfl (hst _ _ _ rfl) ?_
  refine gz_iload (pc := 29) cx qd_Z_enter_29 rfl ?_
  refine gz_aload_n (pc := 31) cx qd_Z_enter_31 rfl rfl ?_
  refine gz_getI (pc := 32) cx qf_Z_112 qd_Z_enter_32 gm_Z rfl rfl ?_
  refine gz_iastore (pc := 35) cx qd_Z_enter_35 (gm_za (by decide) (by decide)) rfl rfl (by omega) (by decide) ?_
  refine gz_aload_n (pc := 36) cx qd_Z_enter_36 rfl rfl ?_
  refine gz_getR (pc := 37) cx qf_Z_38 qd_Z_enter_37 gm_Z rfl rfl (hst _ _ _ rfl) ?_
  refine gz_iload (pc := 40) cx qd_Z_enter_40 rfl ?_
  refine gz_iload_n (pc := 42) cx qd_Z_enter_42 rfl rfl ?_
  refine gz_iconst (v := 2) (pc := 43) cx qd_Z_enter_43 (by decide) ?_
  refine gz_icmp_ne (tgt := 54) (pc := 44) cx qd_Z_enter_44 (by decide) (fun h44 => ?_) (fun h44 => ?_)
  · refine gz_iconst (v := 0) (pc := 54) cx qd_Z_enter_54 (by decide) ?_
    refine gz_iastore (pc := 55) cx qd_Z_enter_55 (gm_za (by decide) (by decide)) rfl rfl (by omega) (by decide) ?_
    refine gz_aload_n (pc := 56) cx qd_Z_enter_56 rfl rfl ?_
    refine gz_iload_n (pc := 57) cx qd_Z_enter_57 rfl rfl ?_
    refine gz_iload_n (pc := 58) cx qd_Z_enter_58 rfl rfl ?_
    refine gz_iload_n (pc := 59) cx qd_Z_enter_59 rfl rfl ?_
    refine gz_iload (pc := 60) cx qd_Z_enter_60 rfl ?_
    refine gz_callV (pc := 62) cx qv_Z_115 qd_Z_enter_62 (gc_Z_announce hi hm hst) (by decide) rfl gm_Z rfl rfl rfl rfl (Nat.le_of_ble_eq_true rfl) ⟨Nat.zero_le _, Nat.zero_le _⟩ ?_
    rintro _ _ ⟨rfl, rfl⟩
    refine gz_return (pc := 65) cx hr qd_Z_enter_65 ?_
    rw [if_neg h44]
    exact ⟨rfl, rfl⟩
  · refine gz_iconst (v := 1) (pc := 47) cx qd_Z_enter_47 (by decide) ?_
    refine gz_iload (pc := 48) cx qd_Z_enter_48 rfl ?_
    refine gz_ishl (pc := 50) cx qd_Z_enter_50 ?_
    refine gz_goto (tgt := 55) (pc := 51) cx qd_Z_enter_51 (by decide) ?_
    refine gz_iastore (pc := 55) cx qd_Z_enter_55 (gm_za (by decide) (by decide)) rfl rfl (by omega) (by decide) ?_
    refine gz_aload_n (pc := 56) cx qd_Z_enter_56 rfl rfl ?_
    refine gz_iload_n (pc := 57) cx qd_Z_enter_57 rfl rfl ?_
    refine gz_iload_n (pc := 58) cx qd_Z_enter_58 rfl rfl ?_
    refine gz_iload_n (pc := 59) cx qd_Z_enter_59 rfl rfl ?_
    refine gz_iload (pc := 60) cx qd_Z_enter_60 rfl ?_
    refine gz_callV (pc := 62) cx qv_Z_115 qd_Z_enter_62 (gc_Z_announce hi hm hst) (by decide) rfl gm_Z rfl rfl rfl rfl (Nat.le_of_ble_eq_true rfl) ⟨Nat.zero_le _, Nat.zero_le _⟩ ?_
    rintro _ _ ⟨rfl, rfl⟩
    refine gz_return (pc := 65) cx hr qd_Z_enter_65 ?_
    rw [if_pos h44]
    exact ⟨rfl, rfl⟩
theorem gc_Z_learn {G : gG} {la : Launch} {M : mM} {ow : Nat → Bool} {S : gS} {i m : Nat} {s inc fr : Int32} (hi : i < G.1) (h : DR G M ow S) (hrun : mRn M i) (hm : m < G.1) (how : ow i = false) (ho0 : M.1 0 i i = 1) (ho3 : M.1 3 i i = 0) (hsc : ∃ v, v ≤ 4 ∧ M.1 17 i 0 = nI v) : gM G la qy_Z_learn qw_Z_learn 2 0 0 (gTt G) (gTt G) [.inr (some (20, 0, 0)), .inl (nI i), .inl (nI m), .inl s, .inl inc, .inl fr] S (fun v S' => v = none ∧ DR G (mLearn M i m s inc fr (M.1 31 0 0)) ow S' ∧ gFc S S' ∧ S'.1 (22, 0, 0) = S.1 (22, 0, 0)) := by
  refine gM_of (cc := qc_Z_learn) (maxL := 9) (by decide) rfl (Nat.le_of_ble_eq_true rfl) ?_
  intro E cx hr hnm hcz hsz hEl
  subst hEl
  have hD := h
  obtain ⟨d0, d1, d2, d3, d4, d5, d6, d7, d8, d9, d10, d11, d12, d13, d14, d15, d16, d17, d18, d19, d20, d21, d22, d23, d24, d25, d26⟩ := h
  have h8 := d1.1
  have hst := d0
  have hOw : mOw M ow i m := ⟨hrun, fun q => by rw [how] at q; cases q.1⟩
  have e0 := d20 i m hi hm hOw
  have e1 := d21 i m hi hm hrun
  have e3 := d23 i m hi hm hOw
  have e7 := d8 i hi hrun
  have hmi : nI m = nI i ↔ m = i := nI_eq (by omega) (by omega)
  have tail172 : ¬ nI m = nI i → gZ G E 0 0 (gEnd G E 0 0 (gTt G) (fun v S' => v = none ∧ DR G (mLearn M i m s inc fr (M.1 31 0 0)) ow S' ∧ gFc S S' ∧ S'.1 (22, 0, 0) = S.1 (22, 0, 0))) (gTt G) 172 [some (.inr (some (20, 0, 0))), some (.inl (nI i)), some (.inl (nI m)), some (.inl s), some (.inl inc), some (.inl fr), some (.inl (nI (8 * i + m))), some (.inl (bI (decide (M.1 0 i m = s ∧ M.1 1 i m = inc)))), none] [.inl (bI (decide (M.1 0 i m = 0 ∨ M.1 1 i m < inc ∨ (inc = M.1 1 i m ∧ M.1 0 i m < s))))] S := by
    intro hmi2
    refine gz_istore (pc := 172) cx qd_Z_learn_172 (Nat.le_of_ble_eq_true rfl) ?_
    refine gz_iload (pc := 174) cx qd_Z_learn_174 rfl ?_
    refine gz_if_eq (tgt := 193) (pc := 176) cx qd_Z_learn_176 (by decide) (fun h176 => ?_) (fun h176 => ?_)
    · refine gz_iload (pc := 193) cx qd_Z_learn_193 rfl ?_
      refine gz_if_eq (tgt := 217) (pc := 195) cx qd_Z_learn_195 (by decide) (fun h195 => ?_) (fun h195 => ?_)
      · refine gz_return (pc := 217) cx hr qd_Z_learn_217 ?_
        have hne : ¬ m = i := fun q => hmi2 (hmi.mpr q)
        unfold mLearn
        rw [if_neg hne]
        rw [if_neg (bI_f h176), if_neg (fun q => bI_f h195 ⟨q.1.trans q.2.1.symm, q.2.2.symm⟩)]
        exact ⟨rfl, hD, gFc.rf, rfl⟩
      · refine gz_iload_n (pc := 198) cx qd_Z_learn_198 rfl rfl ?_
        refine gz_iconst (v := 2) (pc := 199) cx qd_Z_learn_199 (by decide) ?_
        refine gz_icmp_ne (tgt := 217) (pc := 200) cx qd_Z_learn_200 (by decide) (fun h200 => ?_) (fun h200 => ?_)
        · refine gz_return (pc := 217) cx hr qd_Z_learn_217 ?_
          have hne : ¬ m = i := fun q => hmi2 (hmi.mpr q)
          unfold mLearn
          rw [if_neg hne]
          rw [if_neg (bI_f h176), if_neg (fun q => h200 q.2.1)]
          exact ⟨rfl, hD, gFc.rf, rfl⟩
        · refine gz_aload_n (pc := 203) cx qd_Z_learn_203 rfl rfl ?_
          refine gz_getR (pc := 204) cx qf_Z_38 qd_Z_learn_204 gm_Z rfl rfl (hst _ _ _ rfl) ?_
          refine gz_iload (pc := 207) cx qd_Z_learn_207 rfl ?_
          refine gz_dup2 (pc := 209) cx qd_Z_learn_209 ?_
          refine gz_ialoadV (pc := 210) cx qd_Z_learn_210 (gm_za (by decide) (by decide)) rfl e3 rfl (by omega) (by decide) ?_
          refine gz_iconst (v := 1) (pc := 211) cx qd_Z_learn_211 (by decide) ?_
          refine gz_iload (pc := 212) cx qd_Z_learn_212 rfl ?_
          refine gz_ishl (pc := 214) cx qd_Z_learn_214 ?_
          refine gz_ior (pc := 215) cx qd_Z_learn_215 ?_
          refine gz_iastore (pc := 216) cx qd_Z_learn_216 (gm_za (by decide) (by decide)) rfl rfl (by omega) (by decide) ?_
          refine gz_return (pc := 217) cx hr qd_Z_learn_217 ?_
          have hne : ¬ m = i := fun q => hmi2 (hmi.mpr q)
          unfold mLearn
          rw [if_neg hne]
          have hs := bI_t h195
          rw [if_neg (bI_f h176), if_pos ⟨hs.1.trans h200, h200, hs.2.symm⟩]
          obtain ⟨c1, f1⟩ := hD.conf (i := i) hm (M.1 3 i m ||| mBit fr)
          exact ⟨rfl, c1, f1, rfl⟩
    · refine gz_aload_n (pc := 179) cx qd_Z_learn_179 rfl rfl ?_
      refine gz_iload_n (pc := 180) cx qd_Z_learn_180 rfl rfl ?_
      refine gz_iload_n (pc := 181) cx qd_Z_learn_181 rfl rfl ?_
      refine gz_iload_n (pc := 182) cx qd_Z_learn_182 rfl rfl ?_
      refine gz_iload (pc := 183) cx qd_Z_learn_183 rfl ?_
      refine gz_iload (pc := 185) cx qd_Z_learn_185 rfl ?_
      refine gz_callV (pc := 187) cx qv_Z_119 qd_Z_learn_187 (gc_Z_enter (by omega) (by omega) hst) (by decide) rfl gm_Z rfl rfl rfl rfl (Nat.le_of_ble_eq_true rfl) ⟨Nat.zero_le _, Nat.zero_le _⟩ ?_
      rintro _ _ ⟨rfl, rfl⟩
      rw [d3]
      refine gz_goto (tgt := 217) (pc := 190) cx qd_Z_learn_190 (by decide) ?_
      refine gz_return (pc := 217) cx hr qd_Z_learn_217 ?_
      have hne : ¬ m = i := fun q => hmi2 (hmi.mpr q)
      unfold mLearn
      rw [if_neg hne]
      rw [if_pos (bI_t h176)]
      obtain ⟨c1, f1⟩ := hD.enter (i := i) hm s inc (M.1 31 0 0) (if s = 2 then mBit fr else 0)
      by_cases hs : s = 2
      · subst hs
        rw [if_pos rfl] at c1 f1 ⊢
        rw [if_pos rfl]
        exact ⟨rfl, mEnt_dr c1, f1, rfl⟩
      · rw [if_neg hs] at c1 f1 ⊢
        rw [if_neg hs]
        exact ⟨rfl, c1, f1, rfl⟩
  have tail120 : ¬ nI m = nI i → gZ G E 0 0 (gEnd G E 0 0 (gTt G) (fun v S' => v = none ∧ DR G (mLearn M i m s inc fr (M.1 31 0 0)) ow S' ∧ gFc S S' ∧ S'.1 (22, 0, 0) = S.1 (22, 0, 0))) (gTt G) 120 [some (.inr (some (20, 0, 0))), some (.inl (nI i)), some (.inl (nI m)), some (.inl s), some (.inl inc), some (.inl fr), some (.inl (nI (8 * i + m))), none, none] [.inl (bI (decide (M.1 0 i m = s ∧ M.1 1 i m = inc)))] S := by
    intro hmi2
    refine gz_istore (pc := 120) cx qd_Z_learn_120 (Nat.le_of_ble_eq_true rfl) ?_
    refine gz_aload_n (pc := 122) cx qd_Z_learn_122 rfl rfl ?_
    refine gz_getR (pc := 123) cx qf_Z_29 qd_Z_learn_123 gm_Z rfl rfl (hst _ _ _ rfl) ?_
    refine gz_iload (pc := 126) cx qd_Z_learn_126 rfl ?_
    refine gz_ialoadV (pc := 128) cx qd_Z_learn_128 (gm_za (by decide) (by decide)) rfl e0 rfl (by omega) (by decide) ?_
    refine gz_if_eq (tgt := 167) (pc := 129) cx qd_Z_learn_129 (by decide) (fun h129 => ?_) (fun h129 => ?_)
    · refine gz_iconst (v := 1) (pc := 167) cx qd_Z_learn_167 (by decide) ?_
      refine gz_goto (tgt := 172) (pc := 168) cx qd_Z_learn_168 (by decide) ?_
      have e : bI (decide (M.1 0 i m = 0 ∨ M.1 1 i m < inc ∨ (inc = M.1 1 i m ∧ M.1 0 i m < s))) = 1 := by
        rw [decide_eq_true (Or.inl h129)]; rfl
      have t := tail172 hmi2
      rw [e] at t
      exact t
    · refine gz_iload (pc := 132) cx qd_Z_learn_132 rfl ?_
      refine gz_aload_n (pc := 134) cx qd_Z_learn_134 rfl rfl ?_
      refine gz_getR (pc := 135) cx qf_Z_32 qd_Z_learn_135 gm_Z rfl rfl (hst _ _ _ rfl) ?_
      refine gz_iload (pc := 138) cx qd_Z_learn_138 rfl ?_
      refine gz_ialoadV (pc := 140) cx qd_Z_learn_140 (gm_za (by decide) (by decide)) rfl e1 rfl (by omega) (by decide) ?_
      refine gz_icmp_gt (tgt := 167) (pc := 141) cx qd_Z_learn_141 (by decide) (fun h141 => ?_) (fun h141 => ?_)
      · refine gz_iconst (v := 1) (pc := 167) cx qd_Z_learn_167 (by decide) ?_
        refine gz_goto (tgt := 172) (pc := 168) cx qd_Z_learn_168 (by decide) ?_
        have e : bI (decide (M.1 0 i m = 0 ∨ M.1 1 i m < inc ∨ (inc = M.1 1 i m ∧ M.1 0 i m < s))) = 1 := by
          rw [decide_eq_true (Or.inr (Or.inl h141))]; rfl
        have t := tail172 hmi2
        rw [e] at t
        exact t
      · refine gz_iload (pc := 144) cx qd_Z_learn_144 rfl ?_
        refine gz_aload_n (pc := 146) cx qd_Z_learn_146 rfl rfl ?_
        refine gz_getR (pc := 147) cx qf_Z_32 qd_Z_learn_147 gm_Z rfl rfl (hst _ _ _ rfl) ?_
        refine gz_iload (pc := 150) cx qd_Z_learn_150 rfl ?_
        refine gz_ialoadV (pc := 152) cx qd_Z_learn_152 (gm_za (by decide) (by decide)) rfl e1 rfl (by omega) (by decide) ?_
        refine gz_icmp_ne (tgt := 171) (pc := 153) cx qd_Z_learn_153 (by decide) (fun h153 => ?_) (fun h153 => ?_)
        · refine gz_iconst (v := 0) (pc := 171) cx qd_Z_learn_171 (by decide) ?_
          have e : bI (decide (M.1 0 i m = 0 ∨ M.1 1 i m < inc ∨ (inc = M.1 1 i m ∧ M.1 0 i m < s))) = 0 := by
            rw [decide_eq_false (fun q => q.elim h129 (fun q => q.elim h141 (fun q => h153 q.1)))]; rfl
          have t := tail172 hmi2
          rw [e] at t
          exact t
        · refine gz_iload_n (pc := 156) cx qd_Z_learn_156 rfl rfl ?_
          refine gz_aload_n (pc := 157) cx qd_Z_learn_157 rfl rfl ?_
          refine gz_getR (pc := 158) cx qf_Z_29 qd_Z_learn_158 gm_Z rfl rfl (hst _ _ _ rfl) ?_
          refine gz_iload (pc := 161) cx qd_Z_learn_161 rfl ?_
          refine gz_ialoadV (pc := 163) cx qd_Z_learn_163 (gm_za (by decide) (by decide)) rfl e0 rfl (by omega) (by decide) ?_
          refine gz_icmp_le (tgt := 171) (pc := 164) cx qd_Z_learn_164 (by decide) (fun h164 => ?_) (fun h164 => ?_)
          · refine gz_iconst (v := 0) (pc := 171) cx qd_Z_learn_171 (by decide) ?_
            have e : bI (decide (M.1 0 i m = 0 ∨ M.1 1 i m < inc ∨ (inc = M.1 1 i m ∧ M.1 0 i m < s))) = 0 := by
              rw [decide_eq_false (fun q => q.elim h129 (fun q => q.elim h141 (fun q => absurd q.2 (Int32.not_lt.mpr h164))))]; rfl
            have t := tail172 hmi2
            rw [e] at t
            exact t
          · refine gz_iconst (v := 1) (pc := 167) cx qd_Z_learn_167 (by decide) ?_
            refine gz_goto (tgt := 172) (pc := 168) cx qd_Z_learn_168 (by decide) ?_
            have e : bI (decide (M.1 0 i m = 0 ∨ M.1 1 i m < inc ∨ (inc = M.1 1 i m ∧ M.1 0 i m < s))) = 1 := by
              rw [decide_eq_true (Or.inr (Or.inr ⟨h153, Int32.not_le.mp h164⟩))]; rfl
            have t := tail172 hmi2
            rw [e] at t
            exact t
  refine gz_bipush (v := 8) (pc := 0) cx qd_Z_learn_0 (by decide) ?_
  refine gz_iload_n (pc := 2) cx qd_Z_learn_2 rfl rfl ?_
  refine gz_imul (pc := 3) cx qd_Z_learn_3 ?_
  refine gz_iload_n (pc := 4) cx qd_Z_learn_4 rfl rfl ?_
  refine gz_iadd (pc := 5) cx qd_Z_learn_5 ?_
  try rw [ix8]
  refine gz_istore (pc := 6) cx qd_Z_learn_6 (Nat.le_of_ble_eq_true rfl) ?_
  refine gz_iload_n (pc := 8) cx qd_Z_learn_8 rfl rfl ?_
  refine gz_iload_n (pc := 9) cx qd_Z_learn_9 rfl rfl ?_
  refine gz_icmp_ne (tgt := 92) (pc := 10) cx qd_Z_learn_10 (by decide) (fun h10 => ?_) (fun h10 => ?_)
  · refine gz_aload_n (pc := 92) cx qd_Z_learn_92 rfl rfl ?_
    refine gz_getR (pc := 93) cx qf_Z_29 qd_Z_learn_93 gm_Z rfl rfl (hst _ _ _ rfl) ?_
    refine gz_iload (pc := 96) cx qd_Z_learn_96 rfl ?_
    refine gz_ialoadV (pc := 98) cx qd_Z_learn_98 (gm_za (by decide) (by decide)) rfl e0 rfl (by omega) (by decide) ?_
    refine gz_iload_n (pc := 99) cx qd_Z_learn_99 rfl rfl ?_
    refine gz_icmp_ne (tgt := 119) (pc := 100) cx qd_Z_learn_100 (by decide) (fun h100 => ?_) (fun h100 => ?_)
    · refine gz_iconst (v := 0) (pc := 119) cx qd_Z_learn_119 (by decide) ?_
      have e : bI (decide (M.1 0 i m = s ∧ M.1 1 i m = inc)) = 0 := by
        rw [decide_eq_false (fun q => h100 q.1)]; rfl
      have t := tail120 h10
      rw [e] at t
      exact t
    · refine gz_aload_n (pc := 103) cx qd_Z_learn_103 rfl rfl ?_
      refine gz_getR (pc := 104) cx qf_Z_32 qd_Z_learn_104 gm_Z rfl rfl (hst _ _ _ rfl) ?_
      refine gz_iload (pc := 107) cx qd_Z_learn_107 rfl ?_
      refine gz_ialoadV (pc := 109) cx qd_Z_learn_109 (gm_za (by decide) (by decide)) rfl e1 rfl (by omega) (by decide) ?_
      refine gz_iload (pc := 110) cx qd_Z_learn_110 rfl ?_
      refine gz_icmp_ne (tgt := 119) (pc := 112) cx qd_Z_learn_112 (by decide) (fun h112 => ?_) (fun h112 => ?_)
      · refine gz_iconst (v := 0) (pc := 119) cx qd_Z_learn_119 (by decide) ?_
        have e : bI (decide (M.1 0 i m = s ∧ M.1 1 i m = inc)) = 0 := by
          rw [decide_eq_false (fun q => h112 q.2)]; rfl
        have t := tail120 h10
        rw [e] at t
        exact t
      · refine gz_iconst (v := 1) (pc := 115) cx qd_Z_learn_115 (by decide) ?_
        refine gz_goto (tgt := 120) (pc := 116) cx qd_Z_learn_116 (by decide) ?_
        have e : bI (decide (M.1 0 i m = s ∧ M.1 1 i m = inc)) = 1 := by
          rw [decide_eq_true (⟨h100, h112⟩)]; rfl
        have t := tail120 h10
        rw [e] at t
        exact t
  · refine gz_iload_n (pc := 13) cx qd_Z_learn_13 rfl rfl ?_
    refine gz_iconst (v := 1) (pc := 14) cx qd_Z_learn_14 (by decide) ?_
    refine gz_icmp_ne (tgt := 19) (pc := 15) cx qd_Z_learn_15 (by decide) (fun h15 => ?_) (fun h15 => ?_)
    · refine gz_iload (pc := 19) cx qd_Z_learn_19 rfl ?_
      refine gz_aload_n (pc := 21) cx qd_Z_learn_21 rfl rfl ?_
      refine gz_getR (pc := 22) cx qf_Z_32 qd_Z_learn_22 gm_Z rfl rfl (hst _ _ _ rfl) ?_
      refine gz_iload (pc := 25) cx qd_Z_learn_25 rfl ?_
      refine gz_ialoadV (pc := 27) cx qd_Z_learn_27 (gm_za (by decide) (by decide)) rfl e1 rfl (by omega) (by decide) ?_
      refine gz_icmp_lt (tgt := 77) (pc := 28) cx qd_Z_learn_28 (by decide) (fun h28 => ?_) (fun h28 => ?_)
      · obtain rfl : m = i := hmi.mp h10
        refine gz_aload_n (pc := 77) cx qd_Z_learn_77 rfl rfl ?_
        refine gz_iload_n (pc := 78) cx qd_Z_learn_78 rfl rfl ?_
        refine gz_iload_n (pc := 79) cx qd_Z_learn_79 rfl rfl ?_
        refine gz_iconst (v := 1) (pc := 80) cx qd_Z_learn_80 (by decide) ?_
        refine gz_aload_n (pc := 81) cx qd_Z_learn_81 rfl rfl ?_
        refine gz_getR (pc := 82) cx qf_Z_32 qd_Z_learn_82 gm_Z rfl rfl (hst _ _ _ rfl) ?_
        refine gz_iload (pc := 85) cx qd_Z_learn_85 rfl ?_
        refine gz_ialoadV (pc := 87) cx qd_Z_learn_87 (gm_za (by decide) (by decide)) rfl e1 rfl (by omega) (by decide) ?_
        refine gz_callV (pc := 88) cx qv_Z_115 qd_Z_learn_88 (gc_Z_announce (by omega) (by omega) hst) (by decide) rfl gm_Z rfl rfl rfl rfl (Nat.le_of_ble_eq_true rfl) ⟨Nat.zero_le _, Nat.zero_le _⟩ ?_
        rintro _ _ ⟨rfl, rfl⟩
        refine gz_return (pc := 91) cx hr qd_Z_learn_91 ?_
        unfold mLearn
        rw [if_pos rfl, if_neg h15, if_neg (Int32.not_le.mpr h28)]
        obtain ⟨c1, f1⟩ := hD.ann (i := m) hm
        rw [ho0] at c1 f1
        exact ⟨rfl, c1, f1, rfl⟩
      · refine gz_aload_n (pc := 31) cx qd_Z_learn_31 rfl rfl ?_
        refine gz_getR (pc := 32) cx qf_Z_32 qd_Z_learn_32 gm_Z rfl rfl (hst _ _ _ rfl) ?_
        refine gz_iload (pc := 35) cx qd_Z_learn_35 rfl ?_
        refine gz_iload (pc := 37) cx qd_Z_learn_37 rfl ?_
        refine gz_iconst (v := 1) (pc := 39) cx qd_Z_learn_39 (by decide) ?_
        refine gz_iadd (pc := 40) cx qd_Z_learn_40 ?_
        refine gz_iastore (pc := 41) cx qd_Z_learn_41 (gm_za (by decide) (by decide)) rfl rfl (by omega) (by decide) ?_
        refine gz_aload_n (pc := 42) cx qd_Z_learn_42 rfl rfl ?_
        refine gz_getR (pc := 43) cx qf_Z_35 qd_Z_learn_43 gm_Z rfl rfl (hst _ _ _ rfl) ?_
        refine gz_iload (pc := 46) cx qd_Z_learn_46 rfl ?_
        refine gz_aload_n (pc := 48) cx qd_Z_learn_48 rfl rfl ?_
        refine gz_getV (pc := 49) cx qf_Z_112 qd_Z_learn_49 gm_Z rfl rfl d3 ?_
        refine gz_iastore (pc := 52) cx qd_Z_learn_52 (gm_za (by decide) (by decide)) rfl rfl (by omega) (by decide) ?_
        refine gz_aload_n (pc := 53) cx qd_Z_learn_53 rfl rfl ?_
        refine gz_getR (pc := 54) cx qf_Z_26 qd_Z_learn_54 gm_Z rfl rfl (hst _ _ _ rfl) ?_
        refine gz_iload_n (pc := 57) cx qd_Z_learn_57 rfl rfl ?_
        refine gz_dup2 (pc := 58) cx qd_Z_learn_58 ?_
        refine gz_ialoadV (pc := 59) cx qd_Z_learn_59 (gm_za (by decide) (by decide)) rfl (show _ = M.1 17 i 0 from e7) rfl (by omega) (by decide) ?_
        refine gz_aload_n (pc := 60) cx qd_Z_learn_60 rfl rfl ?_
        refine gz_getR (pc := 61) cx qf_Z_26 qd_Z_learn_61 gm_Z rfl rfl (hst _ _ _ rfl) ?_
        refine gz_iload_n (pc := 64) cx qd_Z_learn_64 rfl rfl ?_
        refine gz_ialoadV (pc := 65) cx qd_Z_learn_65 (gm_za (by decide) (by decide)) rfl (show _ = M.1 17 i 0 from e7) rfl (by omega) (by decide) ?_
        refine gz_iconst (v := 4) (pc := 66) cx qd_Z_learn_66 (by decide) ?_
        refine gz_icmp_ge (tgt := 74) (pc := 67) cx qd_Z_learn_67 (by decide) (fun h67 => ?_) (fun h67 => ?_)
        · refine gz_iconst (v := 0) (pc := 74) cx qd_Z_learn_74 (by decide) ?_
          refine gz_iadd (pc := 75) cx qd_Z_learn_75 ?_
          refine gz_iastore (pc := 76) cx qd_Z_learn_76 (gm_za (by decide) (by decide)) rfl rfl (by omega) (by decide) ?_
          obtain rfl : m = i := hmi.mp h10
          refine gz_aload_n (pc := 77) cx qd_Z_learn_77 rfl rfl ?_
          refine gz_iload_n (pc := 78) cx qd_Z_learn_78 rfl rfl ?_
          refine gz_iload_n (pc := 79) cx qd_Z_learn_79 rfl rfl ?_
          refine gz_iconst (v := 1) (pc := 80) cx qd_Z_learn_80 (by decide) ?_
          refine gz_aload_n (pc := 81) cx qd_Z_learn_81 rfl rfl ?_
          refine gz_getR (pc := 82) cx qf_Z_32 qd_Z_learn_82 gm_Z rfl rfl (hst _ _ _ rfl) ?_
          refine gz_iload (pc := 85) cx qd_Z_learn_85 rfl ?_
          refine gz_ialoadV (pc := 87) cx qd_Z_learn_87 (gm_za (by decide) (by decide)) rfl (show _ = inc + 1 by rw [gI1, if_neg (fun q => by simp at q), gI1, if_neg (fun q => by simp at q), gI1, if_pos ⟨rfl, rfl⟩]) rfl (by omega) (by decide) ?_
          refine gz_callV (pc := 88) cx qv_Z_115 qd_Z_learn_88 (gc_Z_announce (by omega) (by omega) hst) (by decide) rfl gm_Z rfl rfl rfl rfl (Nat.le_of_ble_eq_true rfl) ⟨Nat.zero_le _, Nat.zero_le _⟩ ?_
          rintro _ _ ⟨rfl, rfl⟩
          refine gz_return (pc := 91) cx hr qd_Z_learn_91 ?_
          unfold mLearn
          rw [if_pos rfl, if_neg h15, if_pos (Int32.not_lt.mp h28)]
          obtain ⟨w, hw⟩ : ∃ w, w = mMin4 (M.1 17 m 0 + 1) := ⟨_, rfl⟩
          obtain ⟨c1, f1⟩ := hD.own hi hrun how ho0 ho3 (inc + 1) (M.1 31 0 0)
          obtain ⟨c2, f2⟩ := c1.score (i := m) w
          obtain ⟨v, hv, ev⟩ := hsc
          have es : (M.1 17 m 0 + 0) = w := by
            rw [hw]
            rw [ev] at h67 ⊢
            exact sc4 v hv h67
          rw [← hw, es]
          exact ⟨rfl, mLrn_dr (zSw_eq ▸ c2), zSw_fc (f1.tr f2), rfl⟩
        · refine gz_iconst (v := 1) (pc := 70) cx qd_Z_learn_70 (by decide) ?_
          refine gz_goto (tgt := 75) (pc := 71) cx qd_Z_learn_71 (by decide) ?_
          refine gz_iadd (pc := 75) cx qd_Z_learn_75 ?_
          refine gz_iastore (pc := 76) cx qd_Z_learn_76 (gm_za (by decide) (by decide)) rfl rfl (by omega) (by decide) ?_
          obtain rfl : m = i := hmi.mp h10
          refine gz_aload_n (pc := 77) cx qd_Z_learn_77 rfl rfl ?_
          refine gz_iload_n (pc := 78) cx qd_Z_learn_78 rfl rfl ?_
          refine gz_iload_n (pc := 79) cx qd_Z_learn_79 rfl rfl ?_
          refine gz_iconst (v := 1) (pc := 80) cx qd_Z_learn_80 (by decide) ?_
          refine gz_aload_n (pc := 81) cx qd_Z_learn_81 rfl rfl ?_
          refine gz_getR (pc := 82) cx qf_Z_32 qd_Z_learn_82 gm_Z rfl rfl (hst _ _ _ rfl) ?_
          refine gz_iload (pc := 85) cx qd_Z_learn_85 rfl ?_
          refine gz_ialoadV (pc := 87) cx qd_Z_learn_87 (gm_za (by decide) (by decide)) rfl (show _ = inc + 1 by rw [gI1, if_neg (fun q => by simp at q), gI1, if_neg (fun q => by simp at q), gI1, if_pos ⟨rfl, rfl⟩]) rfl (by omega) (by decide) ?_
          refine gz_callV (pc := 88) cx qv_Z_115 qd_Z_learn_88 (gc_Z_announce (by omega) (by omega) hst) (by decide) rfl gm_Z rfl rfl rfl rfl (Nat.le_of_ble_eq_true rfl) ⟨Nat.zero_le _, Nat.zero_le _⟩ ?_
          rintro _ _ ⟨rfl, rfl⟩
          refine gz_return (pc := 91) cx hr qd_Z_learn_91 ?_
          unfold mLearn
          rw [if_pos rfl, if_neg h15, if_pos (Int32.not_lt.mp h28)]
          obtain ⟨w, hw⟩ : ∃ w, w = mMin4 (M.1 17 m 0 + 1) := ⟨_, rfl⟩
          obtain ⟨c1, f1⟩ := hD.own hi hrun how ho0 ho3 (inc + 1) (M.1 31 0 0)
          obtain ⟨c2, f2⟩ := c1.score (i := m) w
          obtain ⟨v, hv, ev⟩ := hsc
          have es : (M.1 17 m 0 + 1) = w := by
            rw [hw]
            rw [ev] at h67 ⊢
            exact sc3 v hv h67
          rw [← hw, es]
          exact ⟨rfl, mLrn_dr (zSw_eq ▸ c2), zSw_fc (f1.tr f2), rfl⟩
    · refine gz_return (pc := 18) cx hr qd_Z_learn_18 ?_
      obtain rfl : m = i := hmi.mp h10
      unfold mLearn
      rw [if_pos rfl, if_pos h15]
      exact ⟨rfl, hD, gFc.rf, rfl⟩
