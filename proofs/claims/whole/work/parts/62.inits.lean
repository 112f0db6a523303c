/-! the constructors -/
theorem gNf_v : gNf 0 = 5 ∧ gNf 1 = 4 ∧ gNf 2 = 8 ∧ gNf 3 = 18 ∧ gNf 4 = 4 ∧ gNf 5 = 5 ∧ gNf 6 = 28 := by decide
def sFill (S : gS) (K : gK) (g : Nat → gK) (k : Nat) : gS := (S.1, fun K' f => if K' = K ∧ f < k then some (g f) else S.2 K' f)
theorem sFill_0 {S : gS} {K : gK} {g : Nat → gK} : sFill S K g 0 = S := Prod.ext rfl (funext fun K' => funext fun f => if_neg (by omega))
theorem sFill_s {S : gS} {K : gK} {g : Nat → gK} {k : Nat} : gX (sFill S K g k) K k (some (g k)) = sFill S K g (k + 1) := by
  refine Prod.ext rfl (funext fun K' => funext fun f => ?_)
  rw [gX2]
  unfold sFill
  by_cases e : K' = K
  · subst e
    simp only [true_and]
    by_cases e2 : f = k
    · subst e2; rw [if_pos rfl, if_pos (by omega)]
    · rw [if_neg e2]
      by_cases e3 : f < k
      · rw [if_pos e3, if_pos (by omega)]
      · rw [if_neg e3, if_neg (by omega)]
  · simp only [e, false_and, if_false]
theorem sFill_o {S : gS} {K K' : gK} {g : Nat → gK} {k f : Nat} (h : K' ≠ K) : (sFill S K g k).2 K' f = S.2 K' f := if_neg (fun q => h q.1)
theorem gc_E_init {G : gG} {la : Launch} {S : gS} {i j t : Nat}  : gMx G la qy_E_init qw_E_init 1 0 0 t t [.inr (some (9, i, j))] S (fun v S' => v = none ∧ S' = S) := by
  refine gMx_of (cc := qc_E_init) (maxL := 1) (by decide) rfl (Nat.le_of_ble_eq_true rfl) ?_
  intro E cx hnx hr hnm hcz hsz hEl
  subst hEl
  refine gz_aload_n (pc := 0) cx qd_E_init_0 rfl rfl ?_
  refine gz_objInit (pc := 1) cx qo_E_3 qd_E_init_1 (by decide) rfl (Nat.le_of_ble_eq_true rfl) ?_
  refine gz_return (pc := 4) cx hr qd_E_init_4 ?_
  exact ⟨rfl, rfl⟩
theorem gc_R_init {G : gG} {la : Launch} {S : gS} {i j t : Nat}  : gMx G la qy_R_init qw_R_init 1 0 0 t t [.inr (some (11, i, j))] S (fun v S' => v = none ∧ S' = S) := by
  refine gMx_of (cc := qc_R_init) (maxL := 1) (by decide) rfl (Nat.le_of_ble_eq_true rfl) ?_
  intro E cx hnx hr hnm hcz hsz hEl
  subst hEl
  refine gz_aload_n (pc := 0) cx qd_R_init_0 rfl rfl ?_
  refine gz_objInit (pc := 1) cx qo_R_1 qd_R_init_1 (by decide) rfl (Nat.le_of_ble_eq_true rfl) ?_
  refine gz_return (pc := 4) cx hr qd_R_init_4 ?_
  exact ⟨rfl, rfl⟩
theorem gc_M_init {G : gG} {la : Launch} {S : gS} {a t : Nat} (hk : (gOrd G.1)[t]? = some (6, a, 0)) (hm : (5, a, 0) ∈ gKs G t) (hz : ∀ j, j < 24 → S.1 (6, a, 0) j = 0) : gMx G la qy_M_init qw_M_init 1 1 24 t (t + 1) [.inr (some (5, a, 0))] S (fun v S' => v = none ∧ S' = gX S (5, a, 0) 7 (some (6, a, 0))) := by
  refine gMx_of (cc := qc_M_init) (maxL := 1) (by decide) rfl (Nat.le_of_ble_eq_true rfl) ?_
  intro E cx hnx hr hnm hcz hsz hEl
  subst hEl
  refine gz_aload_n (pc := 0) cx qd_M_init_0 rfl rfl ?_
  refine gz_objInit (pc := 1) cx qo_M_3 qd_M_init_1 (by decide) rfl (Nat.le_of_ble_eq_true rfl) ?_
  refine gz_aload_n (pc := 4) cx qd_M_init_4 rfl rfl ?_
  refine gz_bipush (v := 24) (pc := 5) cx qd_M_init_5 (by decide) ?_
  refine gz_newarray (at0 := .int) (ty := 0) (pc := 7) cx rfl qr_int rfl (by decide) (by decide) qd_M_init_7 hk rfl rfl (by decide) hz ⟨by omega, by have := gNf_v; omega⟩ ?_
  refine gz_putR (pc := 9) cx qp_M_11 qd_M_init_9 (gKs_mono hm (by omega)) rfl rfl (fun x => by cases x <;> exact ⟨rfl, rfl⟩) (fun _ => hnm) ?_
  refine gz_return (pc := 12) cx hr qd_M_init_12 ?_
  exact ⟨rfl, rfl⟩
def sFl (S : gS) (k : Nat) : gS := (S.1, fun K f => if K = (4, 0, 0) ∧ f < k then some (5, f, 0) else if K = (4, 1, 0) ∧ f < k then some (5, 60 + f, 0) else if K.1 = 5 ∧ K.2.2 = 0 ∧ f = 7 ∧ (K.2.1 < k ∨ (60 ≤ K.2.1 ∧ K.2.1 < 60 + k)) then some (6, K.2.1, 0) else S.2 K f)
theorem sFl_0 {S : gS} : sFl S 0 = S := by
  refine Prod.ext rfl (funext fun K => funext fun f => ?_)
  unfold sFl
  dsimp only
  rw [if_neg (by omega), if_neg (by omega), if_neg (by omega)]
theorem sFl_s {S : gS} {k : Nat} (hk : k < 60) : gX (gX (gX (gX (sFl S k) (5, k, 0) 7 (some (6, k, 0))) (4, 0, 0) k (some (5, k, 0))) (5, 60 + k, 0) 7 (some (6, 60 + k, 0))) (4, 1, 0) k (some (5, 60 + k, 0)) = sFl S (k + 1) := by
  refine Prod.ext rfl (funext fun K => funext fun f => ?_)
  obtain ⟨a, b, c⟩ := K
  simp only [gX2, sFl, Prod.mk.injEq]
  by_cases h4 : a = 4
  · subst h4
    simp only [show ¬ (4 = 5) by decide, false_and, if_false, true_and]
    by_cases hb : b = 0 ∧ c = 0
    · obtain ⟨rfl, rfl⟩ := hb
      simp only [show ¬ (0 = 1) by decide, false_and, if_false, true_and, and_self]
      by_cases e : f = k
      · subst e; rw [if_pos rfl, if_pos (by omega)]
      · rw [if_neg e]
        by_cases e3 : f < k
        · rw [if_pos e3, if_pos (by omega)]
        · rw [if_neg e3, if_neg (by omega)]
    · simp only [hb, false_and, if_false]
      by_cases hb1 : b = 1 ∧ c = 0
      · simp only [hb1, true_and]
        by_cases e : f = k
        · subst e; simp
        · by_cases e3 : f < k
          · simp [e, e3, show f < k + 1 by omega]
          · simp [e, e3, show ¬ f < k + 1 by omega]
      · simp only [hb1, false_and, if_false]
  · simp only [h4, false_and, if_false]
    by_cases h5 : a = 5 ∧ c = 0 ∧ f = 7
    · obtain ⟨rfl, rfl, rfl⟩ := h5
      simp only [true_and, and_true]
      by_cases e1 : b = 60 + k
      · subst e1
        rw [if_pos rfl, if_pos (by omega)]
      · rw [if_neg e1]
        by_cases e2 : b = k
        · subst e2
          rw [if_pos rfl, if_pos (by omega)]
        · rw [if_neg e2]
          by_cases e3 : b < k ∨ 60 ≤ b ∧ b < 60 + k
          · rw [if_pos e3, if_pos (by omega)]
          · rw [if_neg e3, if_neg (by omega)]
    · rw [if_neg (fun q => h5 ⟨q.1.1, q.1.2.2, q.2⟩), if_neg (fun q => h5 ⟨q.1.1, q.1.2.2, q.2⟩), if_neg (fun q => h5 ⟨q.1, q.2.1, q.2.2.1⟩), if_neg (fun q => h5 ⟨q.1, q.2.1, q.2.2.1⟩)]
theorem sFl_5 {S : gS} {k a f : Nat} (h : ¬ (a < k ∨ (60 ≤ a ∧ a < 60 + k))) : (sFl S k).2 (5, a, 0) f = S.2 (5, a, 0) f := by
  unfold sFl
  dsimp only
  rw [if_neg (fun q => by simp at q), if_neg (fun q => by simp at q), if_neg (fun q => h q.2.2.2)]
theorem sFl_o {S : gS} {k f : Nat} {K : gK} (h4 : K.1 ≠ 4) (h5 : K.1 ≠ 5) : (sFl S k).2 K f = S.2 K f := by
  unfold sFl
  dsimp only
  rw [if_neg (fun q => h4 (by rw [q.1])), if_neg (fun q => h4 (by rw [q.1])), if_neg (fun q => h5 q.1)]
def sF0 (S : gS) : gS := gX (gX (gX (gX S (3, 0, 0) 0 (some (4, 0, 0))) (3, 0, 0) 1 (some (4, 1, 0))) (5, 120, 0) 7 (some (6, 120, 0))) (3, 0, 0) 2 (some (5, 120, 0))
def sF (S : gS) : gS := gI (sFl (sF0 S) 60) (3, 0, 0) 3 0
theorem gc_F_init {G : gG} {la : Launch} {S : gS} (hz : ∀ (k : gK) (f : Nat), k.1 ≠ 0 → S.1 k f = 0 ∧ S.2 k f = none) : gMx G la qy_F_init qw_F_init 2 244 3992 2 246 [.inr (some (3, 0, 0))] S (fun v S' => v = none ∧ S' = sF S) := by
  refine gMx_of (cc := qc_F_init) (maxL := 2) (by decide) rfl (Nat.le_of_ble_eq_true rfl) ?_
  intro E cx hnx hr hnm hcz hsz hEl
  subst hEl
  suffices hh : ∀ k, k ≤ 60 → gZ G E (4 + 4 * k) (152 + 64 * k) (gEnd G E 244 3992 246 (fun v S' => v = none ∧ S' = sF S)) (6 + 4 * k) 35 [some (.inr (some (3, 0, 0))), some (.inl (nI k))] [] (sFl (sF0 S) k) by
    refine gz_aload_n (pc := 0) cx qd_F_init_0 rfl rfl ?_
    refine gz_objInit (pc := 1) cx qo_F_1 qd_F_init_1 (by decide) rfl (Nat.le_of_ble_eq_true rfl) ?_
    refine gz_aload_n (pc := 4) cx qd_F_init_4 rfl rfl ?_
    refine gz_bipush (v := 60) (pc := 5) cx qd_F_init_5 (by decide) ?_
    refine gz_anewarray (ty := 3) (pc := 7) cx rfl ql_F_9 hnx.1.2.1 (by decide) qd_F_init_7 (go_hd (p := 2) (by decide)) rfl rfl (by decide) (fun j hj => (hz (4, 0, 0) j (by decide)).2) ⟨by omega, by have := gNf_v; omega⟩ ?_
    refine gz_putR (pc := 10) cx qp_F_11 qd_F_init_10 (gKs_has (go_hd (p := 1) (by decide)) (by decide)) rfl rfl (fun x => by cases x <;> exact ⟨rfl, rfl⟩) (fun _ => hnm) ?_
    refine gz_aload_n (pc := 13) cx qd_F_init_13 rfl rfl ?_
    refine gz_bipush (v := 60) (pc := 14) cx qd_F_init_14 (by decide) ?_
    refine gz_anewarray (ty := 3) (pc := 16) cx rfl ql_F_9 hnx.1.2.1 (by decide) qd_F_init_16 (go_hd (p := 3) (by decide)) rfl rfl (by decide) (fun j hj => (hz (4, 1, 0) j (by decide)).2) ⟨by omega, by have := gNf_v; omega⟩ ?_
    refine gz_putR (pc := 19) cx qp_F_15 qd_F_init_19 (gKs_has (go_hd (p := 1) (by decide)) (by decide)) rfl rfl (fun x => by cases x <;> exact ⟨rfl, rfl⟩) (fun _ => hnm) ?_
    refine gz_aload_n (pc := 22) cx qd_F_init_22 rfl rfl ?_
    refine gz_new (pc := 23) cx qc_F_9 qd_F_init_23 (go_hd (p := 4) (by decide)) rfl (fun f hf => hz (5, 120, 0) f (by decide)) ⟨by omega, by have := gNf_v; omega⟩ ?_
    refine gz_dup (pc := 26) cx qd_F_init_26 ?_
    refine gz_callN (pc := 27) cx hnx qn_F_18 hnx.2.1 qd_F_init_27 (gc_M_init (a := 120) (t := 5) (go_hd (p := 5) (by decide)) (gKs_has (go_hd (p := 4) (by decide)) (by decide)) (fun j hj => (hz (6, 120, 0) j (by decide)).1)) (by decide) rfl rfl rfl (Nat.le_of_ble_eq_true rfl) ⟨by omega, by have := gNf_v; omega⟩ ?_
    rintro _ _ ⟨rfl, rfl⟩
    refine gz_putR (pc := 30) cx qp_F_19 qd_F_init_30 (gKs_has (go_hd (p := 1) (by decide)) (by decide)) rfl rfl (fun x => by cases x <;> exact ⟨rfl, rfl⟩) (fun _ => hnm) ?_
    refine gz_iconst (v := 0) (pc := 33) cx qd_F_init_33 (by decide) ?_
    refine gz_istore_n (pc := 34) cx qd_F_init_34 rfl (Nat.le_of_ble_eq_true rfl) ?_
    have h0 := hh 0 (Nat.zero_le _)
    rw [sFl_0] at h0
    exact h0
  have z5 : ∀ k a f, k ≤ 60 → k ≤ a → a < 120 → ¬ (60 ≤ a ∧ a < 60 + k) → f < 8 → (sFl (sF0 S) k).1 (5, a, 0) f = 0 ∧ (sFl (sF0 S) k).2 (5, a, 0) f = none := fun k a f hk h1 h2 h3 hf => by
    refine ⟨(hz (5, a, 0) f (by simp)).1, ?_⟩
    rw [sFl_5 (by omega)]
    unfold sF0
    rw [gX2, if_neg (fun q => by simp at q), gX2, if_neg (fun q => by simp at q <;> omega), gX2, if_neg (fun q => by simp at q), gX2, if_neg (fun q => by simp at q)]
    exact (hz (5, a, 0) f (by simp)).2
  have r0 : ∀ k, (sFl (sF0 S) k).2 (3, 0, 0) 0 = some (4, 0, 0) := fun k => (sFl_o (by decide) (by decide)).trans (by simp [sF0, gX2])
  have r1 : ∀ k, (sFl (sF0 S) k).2 (3, 0, 0) 1 = some (4, 1, 0) := fun k => (sFl_o (by decide) (by decide)).trans (by simp [sF0, gX2])
  refine g_upto ?_ ?_
  · refine gz_iload_n (pc := 35) cx qd_F_init_35 rfl rfl ?_
    refine gz_bipush (v := 60) (pc := 36) cx qd_F_init_36 (by decide) ?_
    refine gz_icmp_ge (tgt := 73) (pc := 38) cx qd_F_init_38 (by decide) (fun _ => ?_) (fun h38 => absurd (Int32.le_refl _) h38)
    refine gz_aload_n (pc := 73) cx qd_F_init_73 rfl rfl ?_
    refine gz_iconst (v := 0) (pc := 74) cx qd_F_init_74 (by decide) ?_
    refine gz_putI (pc := 75) cx qp_F_23 qd_F_init_75 (gKs_has (go_hd (p := 1) (by decide)) (by omega)) rfl rfl ⟨rfl, rfl⟩ (fun h => nomatch h) ?_
    refine gz_return (pc := 78) cx hr qd_F_init_78 ?_
    exact ⟨rfl, rfl⟩
  · intro k hk ih
    refine gz_iload_n (pc := 35) cx qd_F_init_35 rfl rfl ?_
    refine gz_bipush (v := 60) (pc := 36) cx qd_F_init_36 (by decide) ?_
    refine gz_icmp_ge (tgt := 73) (pc := 38) cx qd_F_init_38 (by decide) (fun h38 => absurd h38 (nI_ge (b := 60) hk (by decide))) (fun _ => ?_)
    refine gz_aload_n (pc := 41) cx qd_F_init_41 rfl rfl ?_
    refine gz_getR (pc := 42) cx qf_F_11 qd_F_init_42 (gKs_has (go_hd (p := 1) (by decide)) (by omega)) rfl rfl (r0 k) ?_
    refine gz_iload_n (pc := 45) cx qd_F_init_45 rfl rfl ?_
    refine gz_new (pc := 46) cx qc_F_9 qd_F_init_46 (go_msg (i := k) (j := 0) hk (by decide)) rfl (fun f hf => z5 k k f (by omega) (by omega) (by omega) (by omega) hf) ⟨by omega, by have := gNf_v; omega⟩ ?_
    refine gz_dup (pc := 49) cx qd_F_init_49 ?_
    refine gz_callN (pc := 50) cx hnx qn_F_18 hnx.2.1 qd_F_init_50 (gc_M_init (a := k) (t := 6 + 4 * k + 1) (go_msg (i := k) (j := 1) hk (by decide)) (gKs_has (go_msg (i := k) (j := 0) hk (by decide)) (by omega)) (fun j hj => (hz (6, k, 0) j (by simp)).1)) (by decide) rfl rfl rfl (Nat.le_of_ble_eq_true rfl) ⟨by omega, by have := gNf_v; omega⟩ ?_
    rintro _ _ ⟨rfl, rfl⟩
    refine gz_aastore (pc := 53) cx qd_F_init_53 (gKs_has (go_hd (p := 2) (by decide)) (by omega)) (gKs_has (go_msg (i := k) (j := 0) hk (by decide)) (by omega)) rfl rfl ⟨by decide, by decide, rfl⟩ rfl rfl hk (by decide) ?_
    refine gz_aload_n (pc := 54) cx qd_F_init_54 rfl rfl ?_
    refine gz_getR (pc := 55) cx qf_F_15 qd_F_init_55 (gKs_has (go_hd (p := 1) (by decide)) (by omega)) rfl rfl (show (sFl (sF0 S) k).2 (3, 0, 0) 1 = _ from r1 k) ?_
    refine gz_iload_n (pc := 58) cx qd_F_init_58 rfl rfl ?_
    refine gz_new (pc := 59) cx qc_F_9 qd_F_init_59 (go_msg (i := k) (j := 2) hk (by decide)) rfl (fun f hf => ⟨(z5 k (60 + k) f (by omega) (by omega) (by omega) (by omega) hf).1, by rw [gX2, if_neg (fun q => by simp at q), gX2, if_neg (fun q => by simp at q <;> omega)]; exact (z5 k (60 + k) f (by omega) (by omega) (by omega) (by omega) hf).2⟩) ⟨by omega, by have := gNf_v; omega⟩ ?_
    refine gz_dup (pc := 62) cx qd_F_init_62 ?_
    refine gz_callN (pc := 63) cx hnx qn_F_18 hnx.2.1 qd_F_init_63 (gc_M_init (a := 60 + k) (t := 6 + 4 * k + 3) (go_msg (i := k) (j := 3) hk (by decide)) (gKs_has (go_msg (i := k) (j := 2) hk (by decide)) (by omega)) (fun j hj => (hz (6, 60 + k, 0) j (by simp)).1)) (by decide) rfl rfl rfl (Nat.le_of_ble_eq_true rfl) ⟨by omega, by have := gNf_v; omega⟩ ?_
    rintro _ _ ⟨rfl, rfl⟩
    refine gz_aastore (pc := 66) cx qd_F_init_66 (gKs_has (go_hd (p := 3) (by decide)) (by omega)) (gKs_has (go_msg (i := k) (j := 2) hk (by decide)) (by omega)) rfl rfl ⟨by decide, by decide, rfl⟩ rfl rfl hk (by decide) ?_
    refine gz_iinc (pc := 67) cx qd_F_init_67 rfl (g_inc k) ?_
    refine gz_goto (tgt := 35) (pc := 70) cx qd_F_init_70 (by decide) ?_
    rw [sFl_s hk]
    have := gNf_v
    refine gz_widen (c2 := 4 + 4 * (k + 1)) (s2 := 152 + 64 * (k + 1)) (by omega) (by omega) ?_
    exact ih
def sNd (S : gS) (i n : Nat) : gS := sFill (sFill (gX (gX (gI (gI (gX S (7, i, 0) 4 (some (10, i, 0))) (7, i, 0) 0 (nI i)) (7, i, 0) 1 (nI n)) (7, i, 0) 2 (some (3, 0, 0))) (7, i, 0) 3 (some (8, i, 0))) (8, i, 0) (fun f => (9, i, f)) n) (10, i, 0) (fun f => (11, i, f)) 4
theorem gc_N_init {G : gG} {la : Launch} {S : gS} {i : Nat} (hi : i < G.1) (h8 : G.1 ≤ 8) (hz : ∀ (k : gK) (f : Nat), 7 ≤ k.1 → k.1 ≤ 11 → k.2.1 = i → S.1 k f = 0 ∧ S.2 k f = none) : gMx G la qy_N_init qw_N_init 2 14 68 (248 + (G.1 + 7) * i + 1) (248 + (G.1 + 7) * i + (G.1 + 7)) [.inr (some (7, i, 0)), .inl (nI i), .inl (nI G.1), .inr (some (3, 0, 0))] S (fun v S' => v = none ∧ S' = sNd S i G.1) := by
  refine gMx_of (cc := qc_N_init) (maxL := 5) (by decide) rfl (Nat.le_of_ble_eq_true rfl) ?_
  intro E cx hnx hr hnm hcz hsz hEl
  subst hEl
  have r4 : (gX (gX (gI (gI (gX S (7, i, 0) 4 (some (10, i, 0))) (7, i, 0) 0 (nI i)) (7, i, 0) 1 (nI G.1)) (7, i, 0) 2 (some (3, 0, 0))) (7, i, 0) 3 (some (8, i, 0))).2 (7, i, 0) 4 = some (10, i, 0) := by simp [gX2, gI2]
  have r3 : (gX (gX (gI (gI (gX S (7, i, 0) 4 (some (10, i, 0))) (7, i, 0) 0 (nI i)) (7, i, 0) 1 (nI G.1)) (7, i, 0) 2 (some (3, 0, 0))) (7, i, 0) 3 (some (8, i, 0))).2 (7, i, 0) 3 = some (8, i, 0) := by simp [gX2, gI2]
  have l2 : ∀ k, k ≤ 4 → gZ G E (10 + k) (52 + 4 * k) (gEnd G E 14 68 (248 + (G.1 + 7) * i + (G.1 + 7)) (fun v S' => v = none ∧ S' = sNd S i G.1)) (248 + (G.1 + 7) * i + (3 + G.1 + k)) 67 [some (.inr (some (7, i, 0))), some (.inl (nI i)), some (.inl (nI G.1)), some (.inr (some (3, 0, 0))), some (.inl (nI k))] [] (sFill (sFill (gX (gX (gI (gI (gX S (7, i, 0) 4 (some (10, i, 0))) (7, i, 0) 0 (nI i)) (7, i, 0) 1 (nI G.1)) (7, i, 0) 2 (some (3, 0, 0))) (7, i, 0) 3 (some (8, i, 0))) (8, i, 0) (fun f => (9, i, f)) G.1) (10, i, 0) (fun f => (11, i, f)) k) := by
    refine g_upto ?_ ?_
    · have e4 : 3 + G.1 + 4 = G.1 + 7 := by omega
      rw [e4]
      refine gz_iload (pc := 67) cx qd_N_init_67 rfl ?_
      refine gz_iconst (v := 4) (pc := 69) cx qd_N_init_69 (by decide) ?_
      refine gz_icmp_ge (tgt := 93) (pc := 70) cx qd_N_init_70 (by decide) (fun _ => ?_) (fun h70 => absurd (Int32.le_refl _) h70)
      refine gz_return (pc := 93) cx hr qd_N_init_93 ?_
      exact ⟨rfl, rfl⟩
    · intro k hk ih
      refine gz_iload (pc := 67) cx qd_N_init_67 rfl ?_
      refine gz_iconst (v := 4) (pc := 69) cx qd_N_init_69 (by decide) ?_
      refine gz_icmp_ge (tgt := 93) (pc := 70) cx qd_N_init_70 (by decide) (fun h70 => absurd h70 (nI_ge (b := 4) hk (by decide))) (fun _ => ?_)
      refine gz_aload_n (pc := 73) cx qd_N_init_73 rfl rfl ?_
      refine gz_getR (pc := 74) cx qf_N_13 qd_N_init_74 (gKs_has (go_node (j := 0) hi (by omega)) (by omega)) rfl rfl (show _ = some (10, i, 0) by rw [sFill_o (by simp), sFill_o (by simp)]; exact r4) ?_
      refine gz_iload (pc := 77) cx qd_N_init_77 rfl ?_
      refine gz_new (pc := 79) cx qc_N_11 qd_N_init_79 ((go_node (i := i) (j := 3 + G.1 + k) hi (by omega)).trans (gn_r hk)) rfl (fun f hf => ⟨(hz (11, i, k) f (by simp) (by simp) rfl).1, by rw [sFill_o (by simp), sFill_o (by simp)]; simp only [gX2, gI2]; rw [if_neg (fun q => by simp at q), if_neg (fun q => by simp at q), if_neg (fun q => by simp at q)]; exact (hz (11, i, k) f (by simp) (by simp) rfl).2⟩) ⟨by omega, by have := gNf_v; omega⟩ ?_
      refine gz_dup (pc := 82) cx qd_N_init_82 ?_
      refine gz_callN (pc := 83) cx hnx qn_N_35 hnx.2.2.2 qd_N_init_83 (gc_R_init (i := i) (j := k)) (by decide) rfl rfl rfl (Nat.le_of_ble_eq_true rfl) ⟨by omega, by have := gNf_v; omega⟩ ?_
      rintro _ _ ⟨rfl, rfl⟩
      refine gz_aastore (pc := 86) cx qd_N_init_86 (gKs_has (go_node (j := 1) hi (by omega)) (by omega)) (gKs_has ((go_node (i := i) (j := 3 + G.1 + k) hi (by omega)).trans (gn_r hk)) (by omega)) rfl rfl ⟨by decide, by decide, rfl⟩ rfl rfl hk (by decide) ?_
      refine gz_iinc (pc := 87) cx qd_N_init_87 rfl (g_inc k) ?_
      refine gz_goto (tgt := 67) (pc := 90) cx qd_N_init_90 (by decide) ?_
      rw [sFill_s (g := fun f => (11, i, f))]
      have := gNf_v
      refine gz_widen (c2 := 10 + (k + 1)) (s2 := 52 + 4 * (k + 1)) (by omega) (by omega) ?_
      exact ih
  have l1 : ∀ k, k ≤ G.1 → gZ G E (2 + k) (4 + G.1 + 5 * k) (gEnd G E 14 68 (248 + (G.1 + 7) * i + (G.1 + 7)) (fun v S' => v = none ∧ S' = sNd S i G.1)) (248 + (G.1 + 7) * i + (3 + k)) 38 [some (.inr (some (7, i, 0))), some (.inl (nI i)), some (.inl (nI G.1)), some (.inr (some (3, 0, 0))), some (.inl (nI k))] [] (sFill (gX (gX (gI (gI (gX S (7, i, 0) 4 (some (10, i, 0))) (7, i, 0) 0 (nI i)) (7, i, 0) 1 (nI G.1)) (7, i, 0) 2 (some (3, 0, 0))) (7, i, 0) 3 (some (8, i, 0))) (8, i, 0) (fun f => (9, i, f)) k) := by
    refine g_upto ?_ ?_
    · refine gz_iload (pc := 38) cx qd_N_init_38 rfl ?_
      refine gz_iload_n (pc := 40) cx qd_N_init_40 rfl rfl ?_
      refine gz_icmp_ge (tgt := 64) (pc := 41) cx qd_N_init_41 (by decide) (fun _ => ?_) (fun h41 => absurd (Int32.le_refl _) h41)
      refine gz_iconst (v := 0) (pc := 64) cx qd_N_init_64 (by decide) ?_
      refine gz_istore (pc := 65) cx qd_N_init_65 (Nat.le_of_ble_eq_true rfl) ?_
      have h0 := l2 0 (Nat.zero_le _)
      rw [sFill_0] at h0
      refine gz_widen (c2 := 10 + 0) (s2 := 52 + 4 * 0) (by omega) (by omega) ?_
      exact h0
    · intro k hk ih
      refine gz_iload (pc := 38) cx qd_N_init_38 rfl ?_
      refine gz_iload_n (pc := 40) cx qd_N_init_40 rfl rfl ?_
      refine gz_icmp_ge (tgt := 64) (pc := 41) cx qd_N_init_41 (by decide) (fun h41 => absurd h41 (nI_ge hk (by omega))) (fun _ => ?_)
      refine gz_aload_n (pc := 44) cx qd_N_init_44 rfl rfl ?_
      refine gz_getR (pc := 45) cx qf_N_30 qd_N_init_45 (gKs_has (go_node (j := 0) hi (by omega)) (by omega)) rfl rfl (show _ = some (8, i, 0) by rw [sFill_o (by simp)]; exact r3) ?_
      refine gz_iload (pc := 48) cx qd_N_init_48 rfl ?_
      refine gz_new (pc := 50) cx qc_N_28 qd_N_init_50 ((go_node (i := i) (j := 3 + k) hi (by omega)).trans (gn_e hk)) rfl (fun f hf => ⟨(hz (9, i, k) f (by simp) (by simp) rfl).1, by rw [sFill_o (by simp)]; simp only [gX2, gI2]; rw [if_neg (fun q => by simp at q), if_neg (fun q => by simp at q), if_neg (fun q => by simp at q)]; exact (hz (9, i, k) f (by simp) (by simp) rfl).2⟩) ⟨by omega, by have := gNf_v; omega⟩ ?_
      refine gz_dup (pc := 53) cx qd_N_init_53 ?_
      refine gz_callN (pc := 54) cx hnx qn_N_34 hnx.2.2.1 qd_N_init_54 (gc_E_init (i := i) (j := k)) (by decide) rfl rfl rfl (Nat.le_of_ble_eq_true rfl) ⟨by omega, by have := gNf_v; omega⟩ ?_
      rintro _ _ ⟨rfl, rfl⟩
      refine gz_aastore (pc := 57) cx qd_N_init_57 (gKs_has (go_node (j := 2) hi (by omega)) (by omega)) (gKs_has ((go_node (i := i) (j := 3 + k) hi (by omega)).trans (gn_e hk)) (by omega)) rfl rfl ⟨by decide, by decide, rfl⟩ rfl rfl hk (by omega) ?_
      refine gz_iinc (pc := 58) cx qd_N_init_58 rfl (g_inc k) ?_
      refine gz_goto (tgt := 38) (pc := 61) cx qd_N_init_61 (by decide) ?_
      rw [sFill_s (g := fun f => (9, i, f))]
      have := gNf_v
      refine gz_widen (c2 := 2 + (k + 1)) (s2 := 4 + G.1 + 5 * (k + 1)) (by omega) (by omega) ?_
      exact ih
  refine gz_aload_n (pc := 0) cx qd_N_init_0 rfl rfl ?_
  refine gz_objInit (pc := 1) cx qo_N_3 qd_N_init_1 (by decide) rfl (Nat.le_of_ble_eq_true rfl) ?_
  refine gz_aload_n (pc := 4) cx qd_N_init_4 rfl rfl ?_
  refine gz_iconst (v := 4) (pc := 5) cx qd_N_init_5 (by decide) ?_
  refine gz_anewarray (ty := 5) (pc := 6) cx rfl ql_N_11 hnx.1.2.2.2 (by decide) qd_N_init_6 (go_node (i := i) (j := 1) hi (by omega)) rfl rfl (by decide) (fun j hj => (hz (10, i, 0) j (by simp) (by simp) rfl).2) ⟨by omega, by have := gNf_v; omega⟩ ?_
  refine gz_putR (pc := 9) cx qp_N_13 qd_N_init_9 (gKs_has (go_node (j := 0) hi (by omega)) (by omega)) rfl rfl (fun x => by cases x <;> exact ⟨rfl, rfl⟩) (fun _ => hnm) ?_
  refine gz_aload_n (pc := 12) cx qd_N_init_12 rfl rfl ?_
  refine gz_iload_n (pc := 13) cx qd_N_init_13 rfl rfl ?_
  refine gz_putI (pc := 14) cx qp_N_17 qd_N_init_14 (gKs_has (go_node (j := 0) hi (by omega)) (by omega)) rfl rfl ⟨rfl, rfl⟩ (fun _ => hnm) ?_
  refine gz_aload_n (pc := 17) cx qd_N_init_17 rfl rfl ?_
  refine gz_iload_n (pc := 18) cx qd_N_init_18 rfl rfl ?_
  refine gz_putI (pc := 19) cx qp_N_21 qd_N_init_19 (gKs_has (go_node (j := 0) hi (by omega)) (by omega)) rfl rfl ⟨rfl, rfl⟩ (fun _ => hnm) ?_
  refine gz_aload_n (pc := 22) cx qd_N_init_22 rfl rfl ?_
  refine gz_aload_n (pc := 23) cx qd_N_init_23 rfl rfl ?_
  refine gz_putR (pc := 24) cx qp_N_24 qd_N_init_24 (gKs_has (go_node (j := 0) hi (by omega)) (by omega)) rfl rfl (fun x => by cases x <;> exact ⟨rfl, rfl⟩) (fun _ => hnm) ?_
  refine gz_aload_n (pc := 27) cx qd_N_init_27 rfl rfl ?_
  refine gz_iload_n (pc := 28) cx qd_N_init_28 rfl rfl ?_
  refine gz_anewarray (ty := 4) (pc := 29) cx rfl ql_N_28 hnx.1.1 (by decide) qd_N_init_29 (go_node (i := i) (j := 2) hi (by omega)) rfl rfl (by omega) (fun j hj => by simp only [gX2, gI2]; rw [if_neg (fun q => by simp at q), if_neg (fun q => by simp at q)]; exact (hz (8, i, 0) j (by simp) (by simp) rfl).2) ⟨by omega, by have := gNf_v; omega⟩ ?_
  refine gz_putR (pc := 32) cx qp_N_30 qd_N_init_32 (gKs_has (go_node (j := 0) hi (by omega)) (by omega)) rfl rfl (fun x => by cases x <;> exact ⟨rfl, rfl⟩) (fun _ => hnm) ?_
  refine gz_iconst (v := 0) (pc := 35) cx qd_N_init_35 (by decide) ?_
  refine gz_istore (pc := 36) cx qd_N_init_36 (Nat.le_of_ble_eq_true rfl) ?_
  have h0 := l1 0 (Nat.zero_le _)
  rw [sFill_0] at h0
  refine gz_widen (c2 := 2 + 0) (s2 := 4 + G.1 + 5 * 0) (by omega) (by omega) ?_
  exact h0
