theorem mLearn_2 {M : mM} {i m : Nat} {s inc fr w : Int32} : (mLearn M i m s inc fr w).2 = M.2 := by
  unfold mLearn
  split
  · split
    · rfl
    · show (if _ then _ else _ : mM).2 = _
      split <;> rfl
  · split
    · split <;> rfl
    · split <;> rfl
theorem mLearns_2 {M : mM} {i : Nat} {msg : List Int32} {w : Int32} : ∀ {t : Nat}, (mLearns M i msg w t).2 = M.2
  | 0 => rfl
  | t + 1 => by
    show (mLearn (mLearns M i msg w t) _ _ _ _ _ _).2 = _
    rw [mLearn_2, mLearns_2]
theorem gc_N_receive {G : gG} {la : Launch} {M : mM} {p i0 a : Nat} {msg : List Int32} {S : gS} {i : Nat} {w : Int32} (hi : i < G.1) (h : CR G M p i0 (some (a, msg)) S) (hlen : M.2.2.length < 60) (hwf : mWf G.1 msg) : gM G la qy_N_receive qw_N_receive 4 0 0 (gTt G) (gTt G) [.inr (some (7, i, 0)), .inr (some (5, a, 0)), .inl w] S (fun v S' => v = none ∧ CR G (mRecv G.1 M i msg w) p i0 (some (a, msg)) S' ∧ gFr S S') := by
  refine gM_of (cc := qc_N_receive) (maxL := 5) (by decide) rfl (Nat.le_of_ble_eq_true rfl) ?_
  intro E cx hr hnm hcz hsz hEl
  subst hEl
  obtain ⟨c, hc8, hml, hm6, hn1, hn2, hn4, hn5, hnn⟩ := hwf
  have ha := h.cur.1
  have ec : (msg.getD 6 0).toNatClampNeg = c := by rw [hm6]; exact nI_clamp (by omega)
  suffices hh : ∀ t, t ≤ c → ∀ St, CR G (mLearns M i msg w t) p i0 (some (a, msg)) St → gFr S St → gZ G E 0 0 (gEnd G E 0 0 (gTt G) (fun v S' => v = none ∧ CR G (mRecv G.1 M i msg w) p i0 (some (a, msg)) S' ∧ gFr S S')) (gTt G) 2 [some (.inr (some (7, i, 0))), some (.inr (some (5, a, 0))), some (.inl w), some (.inl (nI t)), none] [] St by
    refine gz_iconst (v := 0) (pc := 0) cx qd_N_receive_0 (by decide) ?_
    refine gz_istore_n (pc := 1) cx qd_N_receive_1 rfl (Nat.le_of_ble_eq_true rfl) ?_
    exact hh 0 (Nat.zero_le _) S h gFr.rf
  refine g_upto ?_ ?_
  · intro St hc hf
    obtain ⟨-, cc, -, -, -, hmf, -⟩ := hc.cur
    have hst := hc.1.1
    have hl60 : (mLearns M i msg w c).2.2.length < 60 := by rw [mLearns_2]; exact hlen
    have e11 : St.1 (7, i, 0) 11 = (mLearns M i msg w c).1 21 i 0 := hc.2.2.1 i 11 hi (by decide) (by decide) (by decide)
    have e10 : St.1 (7, i, 0) 10 = (mLearns M i msg w c).1 20 i 0 := hc.2.2.1 i 10 hi (by decide) (by decide) (by decide)
    have e16 : St.1 (7, i, 0) 16 = (mLearns M i msg w c).1 26 i 0 := hc.2.2.1 i 16 hi (by decide) (by decide) (by decide)
    refine gz_iload_n (pc := 2) cx qd_N_receive_2 rfl rfl ?_
    refine gz_aload_n (pc := 3) cx qd_N_receive_3 rfl rfl ?_
    refine gz_getV (pc := 4) cx qf_N_125 qd_N_receive_4 (gm_M (by assumption)) rfl rfl ((hmf 6 (by decide)).trans hm6) ?_
    refine gz_icmp_ge (tgt := 55) (pc := 7) cx qd_N_receive_7 (by decide) (fun _ => ?_) (fun h7 => absurd (Int32.le_refl _) h7)
    refine gz_aload_n (pc := 55) cx qd_N_receive_55 rfl rfl ?_
    refine gz_getV (pc := 56) cx qf_N_138 qd_N_receive_56 (gm_M (by assumption)) rfl rfl (hmf 0 (by decide)) ?_
    refine gz_switch1 (pc := 59) cx 6 (fun i => [96, 120, 128, 136, 173, 157].getD i 0) 173 qd_N_receive_59 (by decide) (by intro i hi; match i, hi with
      | 0, _ => exact ⟨_, rfl, by decide⟩
      | 1, _ => exact ⟨_, rfl, by decide⟩
      | 2, _ => exact ⟨_, rfl, by decide⟩
      | 3, _ => exact ⟨_, rfl, by decide⟩
      | 4, _ => exact ⟨_, rfl, by decide⟩
      | 5, _ => exact ⟨_, rfl, by decide⟩
      | i + 6, hi => exact absurd hi (by omega)) (by decide) (fun i9 hi9 hx9 => ?_) (fun hx9 => ?_)
    · match i9, hi9, hx9 with
      | 0, _, hx9 =>
        refine gz_aload_n (pc := 96) cx qd_N_receive_96 rfl rfl ?_
        refine gz_iconst (v := 2) (pc := 97) cx qd_N_receive_97 (by decide) ?_
        refine gz_aload_n (pc := 98) cx qd_N_receive_98 rfl rfl ?_
        refine gz_getV (pc := 99) cx qf_N_132 qd_N_receive_99 (gm_M (by assumption)) rfl rfl (hmf 1 (by decide)) ?_
        refine gz_aload_n (pc := 102) cx qd_N_receive_102 rfl rfl ?_
        refine gz_getV (pc := 103) cx qf_N_141 qd_N_receive_103 (gm_M (by assumption)) rfl rfl (hmf 3 (by decide)) ?_
        refine gz_aload_n (pc := 106) cx qd_N_receive_106 rfl rfl ?_
        refine gz_getV (pc := 107) cx qf_N_144 qd_N_receive_107 (gm_M (by assumption)) rfl rfl (hmf 4 (by decide)) ?_
        refine gz_aload_n (pc := 110) cx qd_N_receive_110 rfl rfl ?_
        refine gz_getV (pc := 111) cx qf_N_147 qd_N_receive_111 (gm_M (by assumption)) rfl rfl (hmf 5 (by decide)) ?_
        refine gz_callV (pc := 114) cx qv_N_89 qd_N_receive_114 (gc_send hi hc (Or.inr hl60)) (by decide) rfl (gm_N (by assumption)) rfl rfl rfl rfl (Nat.le_of_ble_eq_true rfl) ⟨Nat.zero_le _, Nat.zero_le _⟩ ?_
        rintro _ S' ⟨rfl, c2, f2⟩
        refine gz_goto (tgt := 173) (pc := 117) cx qd_N_receive_117 (by decide) ?_
        refine gz_return (pc := 173) cx hr qd_N_receive_173 ?_
        have hk : msg.getD 0 0 = 1 := hx9
        have et : mRecv G.1 M i msg w = mTake G.1 (mLearns M i msg w c) i msg := by unfold mRecv; rw [ec]
        rw [et]
        unfold mTake
        rw [if_pos hk]
        exact ⟨rfl, c2, hf.tr f2⟩
      | 1, _, hx9 =>
        refine gz_aload_n (pc := 120) cx qd_N_receive_120 rfl rfl ?_
        refine gz_aload_n (pc := 121) cx qd_N_receive_121 rfl rfl ?_
        refine gz_callV (pc := 122) cx qv_N_150 qd_N_receive_122 (gc_N_takeAck hi hc hl60) (by decide) rfl (gm_N (by assumption)) rfl rfl rfl rfl (Nat.le_of_ble_eq_true rfl) ⟨Nat.zero_le _, Nat.zero_le _⟩ ?_
        rintro _ S' ⟨rfl, c2, f2⟩
        refine gz_goto (tgt := 173) (pc := 125) cx qd_N_receive_125 (by decide) ?_
        refine gz_return (pc := 173) cx hr qd_N_receive_173 ?_
        have hk : msg.getD 0 0 = 2 := hx9
        have et : mRecv G.1 M i msg w = mTake G.1 (mLearns M i msg w c) i msg := by unfold mRecv; rw [ec]
        rw [et]
        unfold mTake
        rw [if_neg (fun q => absurd (hk.symm.trans q) (by decide))]
        rw [if_pos hk]
        exact ⟨rfl, c2, hf.tr f2⟩
      | 2, _, hx9 =>
        refine gz_aload_n (pc := 128) cx qd_N_receive_128 rfl rfl ?_
        refine gz_aload_n (pc := 129) cx qd_N_receive_129 rfl rfl ?_
        refine gz_callV (pc := 130) cx qv_N_153 qd_N_receive_130 (gc_N_takeAsk hi hc hl60) (by decide) rfl (gm_N (by assumption)) rfl rfl rfl rfl (Nat.le_of_ble_eq_true rfl) ⟨Nat.zero_le _, Nat.zero_le _⟩ ?_
        rintro _ S' ⟨rfl, c2, f2⟩
        refine gz_goto (tgt := 173) (pc := 133) cx qd_N_receive_133 (by decide) ?_
        refine gz_return (pc := 173) cx hr qd_N_receive_173 ?_
        have hk : msg.getD 0 0 = 3 := hx9
        have et : mRecv G.1 M i msg w = mTake G.1 (mLearns M i msg w c) i msg := by unfold mRecv; rw [ec]
        rw [et]
        unfold mTake
        rw [if_neg (fun q => absurd (hk.symm.trans q) (by decide))]
        rw [if_neg (fun q => absurd (hk.symm.trans q) (by decide))]
        rw [if_pos hk]
        exact ⟨rfl, c2, hf.tr f2⟩
      | 3, _, hx9 =>
        refine gz_aload_n (pc := 136) cx qd_N_receive_136 rfl rfl ?_
        refine gz_aload_n (pc := 137) cx qd_N_receive_137 rfl rfl ?_
        refine gz_callV (pc := 138) cx qv_N_156 qd_N_receive_138 (gc_N_isOfProbe hi ha) (by decide) rfl (gm_N (by assumption)) rfl rfl rfl rfl (Nat.le_of_ble_eq_true rfl) ⟨Nat.zero_le _, Nat.zero_le _⟩ ?_
        rintro _ S' ⟨rfl, hS'⟩
        subst hS'
        rw [e11, e10, hmf 3 (by decide)]
        refine gz_if_eq (tgt := 173) (pc := 141) cx qd_N_receive_141 (by decide) (fun h141 => ?_) (fun h141 => ?_)
        · refine gz_return (pc := 173) cx hr qd_N_receive_173 ?_
          have hk : msg.getD 0 0 = 4 := hx9
          have et : mRecv G.1 M i msg w = mTake G.1 (mLearns M i msg w c) i msg := by unfold mRecv; rw [ec]
          rw [et]
          unfold mTake
          rw [if_neg (fun q => absurd (hk.symm.trans q) (by decide))]
          rw [if_neg (fun q => absurd (hk.symm.trans q) (by decide))]
          rw [if_neg (fun q => absurd (hk.symm.trans q) (by decide))]
          rw [if_pos hk]
          rw [if_neg (bI_f h141)]
          exact ⟨rfl, hc, hf⟩
        · refine gz_aload_n (pc := 144) cx qd_N_receive_144 rfl rfl ?_
          refine gz_dup (pc := 145) cx qd_N_receive_145 ?_
          refine gz_getV (pc := 146) cx qf_N_77 qd_N_receive_146 (gm_N (by assumption)) rfl rfl e16 ?_
          refine gz_iconst (v := 1) (pc := 149) cx qd_N_receive_149 (by decide) ?_
          refine gz_iadd (pc := 150) cx qd_N_receive_150 ?_
          refine gz_putI (pc := 151) cx qp_N_77 qd_N_receive_151 (gm_N (by assumption)) rfl rfl ⟨rfl, rfl⟩ (fun h => nomatch h) ?_
          refine gz_goto (tgt := 173) (pc := 154) cx qd_N_receive_154 (by decide) ?_
          refine gz_return (pc := 173) cx hr qd_N_receive_173 ?_
          have hk : msg.getD 0 0 = 4 := hx9
          have et : mRecv G.1 M i msg w = mTake G.1 (mLearns M i msg w c) i msg := by unfold mRecv; rw [ec]
          rw [et]
          unfold mTake
          rw [if_neg (fun q => absurd (hk.symm.trans q) (by decide))]
          rw [if_neg (fun q => absurd (hk.symm.trans q) (by decide))]
          rw [if_neg (fun q => absurd (hk.symm.trans q) (by decide))]
          rw [if_pos hk]
          rw [if_pos (bI_t h141)]
          obtain ⟨c1, f1⟩ := hc.N (i := i) (f := 16) (by decide) (by decide) (by decide) ((mLearns M i msg w c).1 26 i 0 + 1)
          exact ⟨rfl, c1, hf.tr f1⟩
      | 4, _, hx9 =>
        refine gz_return (pc := 173) cx hr qd_N_receive_173 ?_
        have hk : msg.getD 0 0 = 5 := hx9
        have et : mRecv G.1 M i msg w = mTake G.1 (mLearns M i msg w c) i msg := by unfold mRecv; rw [ec]
        rw [et]
        unfold mTake
        rw [if_neg (fun q => absurd (hk.symm.trans q) (by decide))]
        rw [if_neg (fun q => absurd (hk.symm.trans q) (by decide))]
        rw [if_neg (fun q => absurd (hk.symm.trans q) (by decide))]
        rw [if_neg (fun q => absurd (hk.symm.trans q) (by decide))]
        rw [if_neg (fun q => absurd (hk.symm.trans q) (by decide))]
        exact ⟨rfl, hc, hf⟩
      | 5, _, hx9 =>
        refine gz_aload_n (pc := 157) cx qd_N_receive_157 rfl rfl ?_
        refine gz_bipush (v := 7) (pc := 158) cx qd_N_receive_158 (by decide) ?_
        refine gz_aload_n (pc := 160) cx qd_N_receive_160 rfl rfl ?_
        refine gz_getV (pc := 161) cx qf_N_132 qd_N_receive_161 (gm_M (by assumption)) rfl rfl (hmf 1 (by decide)) ?_
        refine gz_iconst (v := 0) (pc := 164) cx qd_N_receive_164 (by decide) ?_
        refine gz_iconst (v := 0) (pc := 165) cx qd_N_receive_165 (by decide) ?_
        refine gz_iconst (v := 0) (pc := 166) cx qd_N_receive_166 (by decide) ?_
        refine gz_callV (pc := 167) cx qv_N_89 qd_N_receive_167 (gc_send hi hc (Or.inr hl60)) (by decide) rfl (gm_N (by assumption)) rfl rfl rfl rfl (Nat.le_of_ble_eq_true rfl) ⟨Nat.zero_le _, Nat.zero_le _⟩ ?_
        rintro _ S' ⟨rfl, c2, f2⟩
        refine gz_goto (tgt := 173) (pc := 170) cx qd_N_receive_170 (by decide) ?_
        refine gz_return (pc := 173) cx hr qd_N_receive_173 ?_
        have hk : msg.getD 0 0 = 6 := hx9
        have et : mRecv G.1 M i msg w = mTake G.1 (mLearns M i msg w c) i msg := by unfold mRecv; rw [ec]
        rw [et]
        unfold mTake
        rw [if_neg (fun q => absurd (hk.symm.trans q) (by decide))]
        rw [if_neg (fun q => absurd (hk.symm.trans q) (by decide))]
        rw [if_neg (fun q => absurd (hk.symm.trans q) (by decide))]
        rw [if_neg (fun q => absurd (hk.symm.trans q) (by decide))]
        rw [if_pos hk]
        exact ⟨rfl, c2, hf.tr f2⟩
      | i9 + 6, hi9, _ => exact absurd hi9 (by omega)
    · refine gz_return (pc := 173) cx hr qd_N_receive_173 ?_
      have et : mRecv G.1 M i msg w = mTake G.1 (mLearns M i msg w c) i msg := by unfold mRecv; rw [ec]
      rw [et]
      unfold mTake
      rw [if_neg (show ¬ msg.getD 0 0 = 1 from hx9 0 (by decide))]
      rw [if_neg (show ¬ msg.getD 0 0 = 2 from hx9 1 (by decide))]
      rw [if_neg (show ¬ msg.getD 0 0 = 3 from hx9 2 (by decide))]
      rw [if_neg (show ¬ msg.getD 0 0 = 4 from hx9 3 (by decide))]
      rw [if_neg (show ¬ msg.getD 0 0 = 6 from hx9 5 (by decide))]
      exact ⟨rfl, hc, hf⟩
  · intro t ht ih St hc hf
    obtain ⟨-, cc, hcc8, hcl, hc6, hmf, hmn⟩ := hc.cur
    have ecc : cc = c := by omega
    subst ecc
    have hst := hc.1.1
    obtain ⟨m, hm, hmm⟩ := hnn t ht
    have e3 : (3 : Int32) * nI t = nI (3 * t) := pk_mul 3 t
    have e4 : (3 : Int32) * nI t + 1 = nI (3 * t + 1) := by rw [e3]; exact (nI_succ _).symm
    have e5 : (3 : Int32) * nI t + 2 = nI (3 * t + 2) := by rw [e3]; exact nI_add (3 * t) 2
    refine gz_iload_n (pc := 2) cx qd_N_receive_2 rfl rfl ?_
    refine gz_aload_n (pc := 3) cx qd_N_receive_3 rfl rfl ?_
    refine gz_getV (pc := 4) cx qf_N_125 qd_N_receive_4 (gm_M (by assumption)) rfl rfl ((hmf 6 (by decide)).trans hm6) ?_
    refine gz_icmp_ge (tgt := 55) (pc := 7) cx qd_N_receive_7 (by decide) (fun h7 => absurd h7 (nI_ge ht (by omega))) (fun _ => ?_)
    refine gz_iconst (v := 3) (pc := 10) cx qd_N_receive_10 (by decide) ?_
    refine gz_iload_n (pc := 11) cx qd_N_receive_11 rfl rfl ?_
    refine gz_imul (pc := 12) cx qd_N_receive_12 ?_
    refine gz_istore (pc := 13) cx qd_N_receive_13 (Nat.le_of_ble_eq_true rfl) ?_
    refine gz_aload_n (pc := 15) cx qd_N_receive_15 rfl rfl ?_
    refine gz_aload_n (pc := 16) cx qd_N_receive_16 rfl rfl ?_
    refine gz_getR (pc := 17) cx qf_N_128 qd_N_receive_17 (gm_M (by assumption)) rfl rfl (hst _ _ _ rfl) ?_
    refine gz_iload (pc := 20) cx qd_N_receive_20 rfl ?_
    refine gz_iaload (pc := 22) cx qd_N_receive_22 (by first | exact gm_tb (by assumption) | exact gm_ns | exact gm_cf | exact gm_w (by assumption) | exact gm_nw (by assumption) | exact gm_rs (by assumption) | exact gm_M (by assumption) | exact gm_R (by assumption) (by assumption) | exact gm_za (by decide) (by decide)) rfl e3 (by omega) (by decide) ?_
    refine gz_aload_n (pc := 23) cx qd_N_receive_23 rfl rfl ?_
    refine gz_getR (pc := 24) cx qf_N_128 qd_N_receive_24 (gm_M (by assumption)) rfl rfl (hst _ _ _ rfl) ?_
    refine gz_iload (pc := 27) cx qd_N_receive_27 rfl ?_
    refine gz_iconst (v := 1) (pc := 29) cx qd_N_receive_29 (by decide) ?_
    refine gz_iadd (pc := 30) cx qd_N_receive_30 ?_
    refine gz_iaload (pc := 31) cx qd_N_receive_31 (by first | exact gm_tb (by assumption) | exact gm_ns | exact gm_cf | exact gm_w (by assumption) | exact gm_nw (by assumption) | exact gm_rs (by assumption) | exact gm_M (by assumption) | exact gm_R (by assumption) (by assumption) | exact gm_za (by decide) (by decide)) rfl e4 (by omega) (by decide) ?_
    refine gz_aload_n (pc := 32) cx qd_N_receive_32 rfl rfl ?_
    refine gz_getR (pc := 33) cx qf_N_128 qd_N_receive_33 (gm_M (by assumption)) rfl rfl (hst _ _ _ rfl) ?_
    refine gz_iload (pc := 36) cx qd_N_receive_36 rfl ?_
    refine gz_iconst (v := 2) (pc := 38) cx qd_N_receive_38 (by decide) ?_
    refine gz_iadd (pc := 39) cx qd_N_receive_39 ?_
    refine gz_iaload (pc := 40) cx qd_N_receive_40 (by first | exact gm_tb (by assumption) | exact gm_ns | exact gm_cf | exact gm_w (by assumption) | exact gm_nw (by assumption) | exact gm_rs (by assumption) | exact gm_M (by assumption) | exact gm_R (by assumption) (by assumption) | exact gm_za (by decide) (by decide)) rfl e5 (by omega) (by decide) ?_
    refine gz_aload_n (pc := 41) cx qd_N_receive_41 rfl rfl ?_
    refine gz_getV (pc := 42) cx qf_N_132 qd_N_receive_42 (gm_M (by assumption)) rfl rfl (hmf 1 (by decide)) ?_
    refine gz_iload_n (pc := 45) cx qd_N_receive_45 rfl rfl ?_
    rw [hmn (3 * t) (by omega), hmn (3 * t + 1) (by omega), hmn (3 * t + 2) (by omega), hmm]
    refine gz_callV (pc := 46) cx qv_N_135 qd_N_receive_46 (gc_N_learn hi hm hc) (by decide) rfl (gm_N (by assumption)) rfl rfl rfl rfl (Nat.le_of_ble_eq_true rfl) ⟨Nat.zero_le _, Nat.zero_le _⟩ ?_
    rintro _ S' ⟨rfl, c2, f2⟩
    refine gz_iinc (pc := 49) cx qd_N_receive_49 rfl (g_inc t) ?_
    refine gz_goto (tgt := 2) (pc := 52) cx qd_N_receive_52 (by decide) ?_
    refine gz_weak (lv' := [some (.inr (some (7, i, 0))), some (.inr (some (5, a, 0))), some (.inl w), some (.inl (nI (t + 1))), none]) ⟨rfl, rfl, rfl, rfl, trivial⟩ ?_
    refine ih S' ?_ (hf.tr f2)
    have em : mLearns M i msg w (t + 1) = mLearn (mLearns M i msg w t) i m (msg.getD (7 + (3 * t + 1)) 0) (msg.getD (7 + (3 * t + 2)) 0) (msg.getD 1 0) w := by
      show mLearn (mLearns M i msg w t) i (msg.getD (7 + 3 * t) 0).toNatClampNeg _ _ _ _ = _
      rw [hmm, nI_clamp (by have := hc.1.2.1; omega)]
    rw [em]
    exact c2
