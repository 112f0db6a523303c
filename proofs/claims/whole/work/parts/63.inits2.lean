/-! the whole systems -/
theorem sNd_1 {S : gS} {i n : Nat} {K : gK} {f : Nat} : (sNd S i n).1 K f = if K = (7, i, 0) ∧ f = 1 then nI n else if K = (7, i, 0) ∧ f = 0 then nI i else S.1 K f := rfl
theorem sNd_2 {S : gS} {i n : Nat} {K : gK} {f : Nat} : (sNd S i n).2 K f = if K = (10, i, 0) ∧ f < 4 then some (11, i, f) else if K = (8, i, 0) ∧ f < n then some (9, i, f) else if K = (7, i, 0) ∧ f = 3 then some (8, i, 0) else if K = (7, i, 0) ∧ f = 2 then some (3, 0, 0) else if K = (7, i, 0) ∧ f = 4 then some (10, i, 0) else S.2 K f := rfl
theorem sNd_o {S : gS} {i n : Nat} {K : gK} {f : Nat} (h : ¬ (K.2.1 = i ∧ (K.1 = 7 ∨ K.1 = 8 ∨ K.1 = 10))) : (sNd S i n).1 K f = S.1 K f ∧ (sNd S i n).2 K f = S.2 K f := by
  have n7 : ¬ K = (7, i, 0) := fun q => h (by rw [q]; simp)
  have n8 : ¬ K = (8, i, 0) := fun q => h (by rw [q]; simp)
  have n10 : ¬ K = (10, i, 0) := fun q => h (by rw [q]; simp)
  rw [sNd_1, sNd_2]
  simp only [n7, n8, n10, false_and, if_false, and_self]
def sNs (n : Nat) (S : gS) : Nat → gS
  | 0 => S
  | k + 1 => gX (sNd (sNs n S k) k n) (1, 0, 0) k (some (7, k, 0))
theorem sNs_o {n : Nat} {S : gS} {K : gK} {f : Nat} : ∀ {k : Nat}, ¬ (K.2.1 < k ∧ (K.1 = 7 ∨ K.1 = 8 ∨ K.1 = 10)) → K.1 ≠ 1 → (sNs n S k).1 K f = S.1 K f ∧ (sNs n S k).2 K f = S.2 K f
  | 0, _, _ => ⟨rfl, rfl⟩
  | k + 1, h, h1 => by
    obtain ⟨a, b⟩ := sNs_o (n := n) (S := S) (K := K) (f := f) (k := k) (fun q => h ⟨by omega, q.2⟩) h1
    obtain ⟨c, d⟩ := sNd_o (S := sNs n S k) (i := k) (n := n) (K := K) (f := f) (fun q => h ⟨by omega, q.2⟩)
    refine ⟨c.trans a, ?_⟩
    show (gX _ _ _ _).2 K f = _
    rw [gX2, if_neg (fun q => h1 (by rw [q.1])), d, b]
theorem sNs_n {n : Nat} {S : gS} {i : Nat} {K : gK} {f : Nat} (hK : K.2.1 = i) (h1 : K.1 ≠ 1) : ∀ {k : Nat}, i < k → (sNs n S k).1 K f = (sNd (sNs n S i) i n).1 K f ∧ (sNs n S k).2 K f = (sNd (sNs n S i) i n).2 K f
  | 0, h => by cases h
  | k + 1, h => by
    by_cases e : i = k
    · subst e
      refine ⟨rfl, ?_⟩
      show (gX _ _ _ _).2 K f = _
      rw [gX2, if_neg (fun q => h1 (by rw [q.1]))]
    · obtain ⟨a, b⟩ := sNs_n (n := n) (S := S) (K := K) (f := f) hK h1 (k := k) (by omega)
      obtain ⟨c, d⟩ := sNd_o (S := sNs n S k) (i := k) (n := n) (K := K) (f := f) (fun q => by omega)
      refine ⟨c.trans a, ?_⟩
      show (gX _ _ _ _).2 K f = _
      rw [gX2, if_neg (fun q => h1 (by rw [q.1])), d, b]
theorem sNs_1 {n : Nat} {S : gS} {f : Nat} : ∀ {k : Nat}, f < k → (sNs n S k).2 (1, 0, 0) f = some (7, f, 0)
  | 0, h => by cases h
  | k + 1, h => by
    show (gX _ _ _ _).2 _ f = _
    rw [gX2]
    by_cases e : f = k
    · subst e; rw [if_pos ⟨rfl, rfl⟩]
    · rw [if_neg (fun q => e q.2), (sNd_o (fun q => by simp at q)).2]
      exact sNs_1 (by omega)
def sG1 (S : gS) (n : Nat) : gS := gX (gX (gX (sF (gI S (0, 0, 0) 0 (nI n))) (0, 0, 0) 3 (some (3, 0, 0))) (0, 0, 0) 2 (some (2, 0, 0))) (0, 0, 0) 1 (some (1, 0, 0))
def sG (S : gS) (n : Nat) : gS := gI (sNs n (sG1 S n) n) (0, 0, 0) 4 0
theorem gc_G_init {G : gG} {la : Launch} {S : gS} {x : Int32} (hn : (if (if (2 : Int32) < x then x else 2) < 8 then (if (2 : Int32) < x then x else 2) else 8) = nI G.1) (h8 : G.1 ≤ 8) (h2 : 2 ≤ G.1) (hz : ∀ (k : gK) (f : Nat), S.1 k f = 0 ∧ S.2 k f = none) : gMx G la qy_G_init qw_G_init 3 367 4700 1 (248 + (G.1 + 7) * G.1) [.inr (some (0, 0, 0)), .inl x] S (fun v S' => v = none ∧ S' = sG S G.1) := by
  refine gMx_of (cc := qc_G_init) (maxL := 3) (by decide) rfl (Nat.le_of_ble_eq_true rfl) ?_
  intro E cx hnx hr hnm hcz hsz hEl
  subst hEl
  have e0 : (sG1 S G.1).1 (0, 0, 0) 0 = nI G.1 := by
    show (gI S (0, 0, 0) 0 (nI G.1)).1 (0, 0, 0) 0 = _
    rw [gI1, if_pos ⟨rfl, rfl⟩]
  have e1 : (sG1 S G.1).2 (0, 0, 0) 1 = some (1, 0, 0) := by simp [sG1, gX2]
  have e3 : (sG1 S G.1).2 (0, 0, 0) 3 = some (3, 0, 0) := by simp [sG1, gX2]
  have zN : ∀ (k : gK) (f : Nat), 7 ≤ k.1 → k.1 ≤ 11 → (sG1 S G.1).1 k f = 0 ∧ (sG1 S G.1).2 k f = none := fun k f h7 h11 => by
    refine ⟨?_, ?_⟩
    · show (gI (gI S (0, 0, 0) 0 (nI G.1)) (3, 0, 0) 3 0).1 k f = 0
      rw [gI1, if_neg (fun q => by rw [q.1] at h7; simp at h7), gI1, if_neg (fun q => by rw [q.1] at h7; simp at h7)]
      exact (hz k f).1
    · unfold sG1
      rw [gX2, if_neg (fun q => by rw [q.1] at h7; simp at h7), gX2, if_neg (fun q => by rw [q.1] at h7; simp at h7), gX2, if_neg (fun q => by rw [q.1] at h7; simp at h7)]
      show (sFl (sF0 (gI S (0, 0, 0) 0 (nI G.1))) 60).2 k f = none
      rw [sFl_o (by omega) (by omega)]
      unfold sF0
      rw [gX2, if_neg (fun q => by rw [q.1] at h7; simp at h7), gX2, if_neg (fun q => by rw [q.1] at h7; simp at h7), gX2, if_neg (fun q => by rw [q.1] at h7; simp at h7), gX2, if_neg (fun q => by rw [q.1] at h7; simp at h7)]
      exact (hz k f).2
  suffices hh : ∀ k, k ≤ G.1 → gZ G E (247 + 15 * k) (4012 + 86 * k) (gEnd G E 367 4700 (248 + (G.1 + 7) * G.1) (fun v S' => v = none ∧ S' = sG S G.1)) (248 + (G.1 + 7) * k) 52 [some (.inr (some (0, 0, 0))), some (.inl x), some (.inl (nI k))] [] (sNs G.1 (sG1 S G.1) k) by
    refine gz_aload_n (pc := 0) cx qd_G_init_0 rfl rfl ?_
    refine gz_objInit (pc := 1) cx qo_G_1 qd_G_init_1 (by decide) rfl (Nat.le_of_ble_eq_true rfl) ?_
    refine gz_aload_n (pc := 4) cx qd_G_init_4 rfl rfl ?_
    refine gz_bipush (v := 8) (pc := 5) cx qd_G_init_5 (by decide) ?_
    refine gz_iconst (v := 2) (pc := 7) cx qd_G_init_7 (by decide) ?_
    refine gz_iload_n (pc := 8) cx qd_G_init_8 rfl rfl ?_
    refine gz_max (pc := 9) cx qm_G_9 qm_max_s qm_i qm_max_c qd_G_init_9 (by decide) rfl (Nat.le_of_ble_eq_true rfl) ⟨Nat.zero_le _, Nat.zero_le _⟩ ?_
    refine gz_min (pc := 12) cx qm_G_15 qm_min_s qm_i qm_min_c qd_G_init_12 (by decide) rfl (Nat.le_of_ble_eq_true rfl) ⟨Nat.zero_le _, Nat.zero_le _⟩ ?_
    rw [hn]
    refine gz_putI (pc := 15) cx qp_G_18 qd_G_init_15 (gKs_has (go_hd (p := 0) (by decide)) (by omega)) rfl rfl ⟨rfl, rfl⟩ (fun _ => hnm) ?_
    refine gz_aload_n (pc := 18) cx qd_G_init_18 rfl rfl ?_
    refine gz_new (pc := 19) cx qc_G_22 qd_G_init_19 (go_hd (p := 1) (by decide)) rfl (fun f hf => ⟨by rw [gI1, if_neg (fun q => by simp at q)]; exact (hz _ f).1, (hz _ f).2⟩) ⟨by omega, by have := gNf_v; omega⟩ ?_
    refine gz_dup (pc := 22) cx qd_G_init_22 ?_
    refine gz_callI (pc := 23) cx hnx qa_G_24 qd_G_init_23 (gc_F_init (fun k f hk => ⟨by rw [gI1, if_neg (fun q => hk (by rw [q.1]))]; exact (hz k f).1, (hz k f).2⟩)) (by decide) rfl rfl rfl (Nat.le_of_ble_eq_true rfl) ⟨by omega, by have := gNf_v; omega⟩ ?_
    rintro _ _ ⟨rfl, rfl⟩
    refine gz_putR (pc := 26) cx qp_G_25 qd_G_init_26 (gKs_has (go_hd (p := 0) (by decide)) (by omega)) rfl rfl (fun x => by cases x <;> exact ⟨rfl, rfl⟩) (fun _ => hnm) ?_
    refine gz_aload_n (pc := 29) cx qd_G_init_29 rfl rfl ?_
    refine gz_aload_n (pc := 30) cx qd_G_init_30 rfl rfl ?_
    refine gz_getV (pc := 31) cx qf_G_18 qd_G_init_31 (gKs_has (go_hd (p := 0) (by decide)) (by omega)) rfl rfl (show (gI S (0, 0, 0) 0 (nI G.1)).1 (0, 0, 0) 0 = nI G.1 by rw [gI1, if_pos ⟨rfl, rfl⟩]) ?_
    refine gz_newarray (at0 := .int) (ty := 0) (pc := 34) cx rfl qr_int rfl (by decide) (by decide) qd_G_init_34 (go_2 (j := 0) (by decide)) rfl rfl (by omega) (fun j hj => (show (gI (gI S (0, 0, 0) 0 (nI G.1)) (3, 0, 0) 3 0).1 (2, 0, 0) j = 0 by rw [gI1, if_neg (fun q => by simp at q), gI1, if_neg (fun q => by simp at q)]; exact (hz _ j).1)) ⟨by omega, by have := gNf_v; omega⟩ ?_
    refine gz_putR (pc := 36) cx qp_G_29 qd_G_init_36 (gKs_has (go_hd (p := 0) (by decide)) (by omega)) rfl rfl (fun x => by cases x <;> exact ⟨rfl, rfl⟩) (fun _ => hnm) ?_
    refine gz_aload_n (pc := 39) cx qd_G_init_39 rfl rfl ?_
    refine gz_aload_n (pc := 40) cx qd_G_init_40 rfl rfl ?_
    refine gz_getV (pc := 41) cx qf_G_18 qd_G_init_41 (gKs_has (go_hd (p := 0) (by decide)) (by omega)) rfl rfl (show (gI S (0, 0, 0) 0 (nI G.1)).1 (0, 0, 0) 0 = nI G.1 by rw [gI1, if_pos ⟨rfl, rfl⟩]) ?_
    refine gz_anewarray (ty := 2) (pc := 44) cx rfl ql_G_33 hnx.1.2.2.1 (by decide) qd_G_init_44 (go_2 (j := 1) (by decide)) rfl rfl (by omega) (fun j hj => by rw [gX2, if_neg (fun q => by simp at q), gX2, if_neg (fun q => by simp at q)]; show (sFl (sF0 (gI S (0, 0, 0) 0 (nI G.1))) 60).2 (1, 0, 0) j = none; rw [sFl_o (by decide) (by decide)]; unfold sF0; rw [gX2, if_neg (fun q => by simp at q), gX2, if_neg (fun q => by simp at q), gX2, if_neg (fun q => by simp at q), gX2, if_neg (fun q => by simp at q)]; exact (hz _ j).2) ⟨by omega, by have := gNf_v; omega⟩ ?_
    refine gz_putR (pc := 47) cx qp_G_35 qd_G_init_47 (gKs_has (go_hd (p := 0) (by decide)) (by omega)) rfl rfl (fun x => by cases x <;> exact ⟨rfl, rfl⟩) (fun _ => hnm) ?_
    refine gz_iconst (v := 0) (pc := 50) cx qd_G_init_50 (by decide) ?_
    refine gz_istore_n (pc := 51) cx qd_G_init_51 rfl (Nat.le_of_ble_eq_true rfl) ?_
    have h0 := hh 0 (Nat.zero_le _)
    have := gNf_v
    refine gz_widen (c2 := 247 + 15 * 0) (s2 := 4012 + 86 * 0) (by omega) (by omega) ?_
    exact h0
  refine g_upto ?_ ?_
  · refine gz_iload_n (pc := 52) cx qd_G_init_52 rfl rfl ?_
    refine gz_aload_n (pc := 53) cx qd_G_init_53 rfl rfl ?_
    refine gz_getV (pc := 54) cx qf_G_18 qd_G_init_54 (gKs_has (go_hd (p := 0) (by decide)) (by omega)) rfl rfl (show (sNs G.1 (sG1 S G.1) G.1).1 (0, 0, 0) 0 = nI G.1 from (sNs_o (by simp) (by decide)).1.trans e0) ?_
    refine gz_icmp_ge (tgt := 88) (pc := 57) cx qd_G_init_57 (by decide) (fun _ => ?_) (fun h57 => absurd (Int32.le_refl _) h57)
    refine gz_aload_n (pc := 88) cx qd_G_init_88 rfl rfl ?_
    refine gz_iconst (v := 0) (pc := 89) cx qd_G_init_89 (by decide) ?_
    refine gz_putI (pc := 90) cx qp_G_42 qd_G_init_90 (gKs_has (go_hd (p := 0) (by decide)) (by omega)) rfl rfl ⟨rfl, rfl⟩ (fun _ => hnm) ?_
    have := gNf_v
    refine gz_widen (c2 := 367) (s2 := 4700) (by omega) (by omega) ?_
    refine gz_return (pc := 93) cx hr qd_G_init_93 ?_
    exact ⟨rfl, rfl⟩
  · intro k hk ih
    have em : 248 + (G.1 + 7) * (k + 1) = 248 + (G.1 + 7) * k + (G.1 + 7) := by rw [Nat.mul_succ]; omega
    rw [em] at ih
    refine gz_iload_n (pc := 52) cx qd_G_init_52 rfl rfl ?_
    refine gz_aload_n (pc := 53) cx qd_G_init_53 rfl rfl ?_
    refine gz_getV (pc := 54) cx qf_G_18 qd_G_init_54 (gKs_has (go_hd (p := 0) (by decide)) (by omega)) rfl rfl (show (sNs G.1 (sG1 S G.1) k).1 (0, 0, 0) 0 = nI G.1 from (sNs_o (by simp) (by decide)).1.trans e0) ?_
    refine gz_icmp_ge (tgt := 88) (pc := 57) cx qd_G_init_57 (by decide) (fun h57 => absurd h57 (nI_ge hk (by omega))) (fun _ => ?_)
    refine gz_aload_n (pc := 60) cx qd_G_init_60 rfl rfl ?_
    refine gz_getR (pc := 61) cx qf_G_35 qd_G_init_61 (gKs_has (go_hd (p := 0) (by decide)) (by omega)) rfl rfl ((sNs_o (by simp) (by decide)).2.trans e1) ?_
    refine gz_iload_n (pc := 64) cx qd_G_init_64 rfl rfl ?_
    refine gz_new (pc := 65) cx qc_G_33 qd_G_init_65 (go_node (j := 0) hk (by omega)) rfl (fun f hf => by obtain ⟨a, b⟩ := sNs_o (n := G.1) (S := sG1 S G.1) (K := (7, k, 0)) (f := f) (k := k) (fun q => by simp at q) (by simp); rw [a, b]; exact zN _ f (by simp) (by simp)) ⟨by omega, by have := gNf_v; omega⟩ ?_
    refine gz_dup (pc := 68) cx qd_G_init_68 ?_
    refine gz_iload_n (pc := 69) cx qd_G_init_69 rfl rfl ?_
    refine gz_aload_n (pc := 70) cx qd_G_init_70 rfl rfl ?_
    refine gz_getV (pc := 71) cx qf_G_18 qd_G_init_71 (gKs_has (go_hd (p := 0) (by decide)) (by omega)) rfl rfl (show (sNs G.1 (sG1 S G.1) k).1 (0, 0, 0) 0 = nI G.1 from (sNs_o (by simp) (by decide)).1.trans e0) ?_
    refine gz_aload_n (pc := 74) cx qd_G_init_74 rfl rfl ?_
    refine gz_getR (pc := 75) cx qf_G_25 qd_G_init_75 (gKs_has (go_hd (p := 0) (by decide)) (by omega)) rfl rfl ((sNs_o (by simp) (by decide)).2.trans e3) ?_
    refine gz_callI (pc := 78) cx hnx qa_G_39 qd_G_init_78 (gc_N_init hk h8 (fun K f h7 h11 hi2 => by obtain ⟨a, b⟩ := sNs_o (n := G.1) (S := sG1 S G.1) (K := K) (f := f) (k := k) (fun q => by omega) (by omega); rw [a, b]; exact zN K f h7 h11)) (by decide) rfl rfl rfl (Nat.le_of_ble_eq_true rfl) ⟨by omega, by have := gNf_v; omega⟩ ?_
    rintro _ _ ⟨rfl, rfl⟩
    refine gz_aastore (pc := 81) cx qd_G_init_81 (gKs_has (go_2 (j := 1) (by decide)) (by omega)) (gKs_has (go_node (j := 0) hk (by omega)) (by omega)) rfl rfl ⟨by decide, by decide, rfl⟩ rfl rfl hk (by omega) ?_
    refine gz_iinc (pc := 82) cx qd_G_init_82 rfl (g_inc k) ?_
    refine gz_goto (tgt := 52) (pc := 85) cx qd_G_init_85 (by decide) ?_
    have := gNf_v
    refine gz_widen (c2 := 247 + 15 * (k + 1)) (s2 := 4012 + 86 * (k + 1)) (by omega) (by omega) ?_
    exact ih
def sZr (S : gS) : Nat → gS
  | 0 => S
  | k + 1 => gX (sZr S k) (20, 0, 0) (3 + k) (some (21 + k, 0, 0))
theorem sZr_1 {S : gS} : ∀ {k : Nat}, (sZr S k).1 = S.1
  | 0 => rfl
  | k + 1 => sZr_1 (k := k)
theorem sZr_o {S : gS} {K : gK} {f : Nat} (h : K ≠ (20, 0, 0)) : ∀ {k : Nat}, (sZr S k).2 K f = S.2 K f
  | 0 => rfl
  | k + 1 => by
    show (gX _ _ _ _).2 K f = _
    rw [gX2, if_neg (fun q => h q.1)]; exact sZr_o h
theorem sZr_a {S : gS} {j : Nat} : ∀ {k : Nat}, j < k → (sZr S k).2 (20, 0, 0) (3 + j) = some (21 + j, 0, 0)
  | 0, h => by cases h
  | k + 1, h => by
    show (gX _ _ _ _).2 _ _ = _
    rw [gX2]
    by_cases e : j = k
    · subst e; rw [if_pos ⟨rfl, rfl⟩]
    · rw [if_neg (fun q => e (by have := q.2; omega))]; exact sZr_a (by omega)
theorem sZr_b {S : gS} {f : Nat} (hf : f < 3) : ∀ {k : Nat}, (sZr S k).2 (20, 0, 0) f = S.2 (20, 0, 0) f
  | 0 => rfl
  | k + 1 => by
    show (gX _ _ _ _).2 _ _ = _
    rw [gX2, if_neg (fun q => by have := q.2; omega)]; exact sZr_b hf
def sZ (S : gS) (n : Nat) : gS := gI (sZr S 25) (20, 0, 0) 0 (nI n)
theorem gc_Z_init {G : gG} {la : Launch} {S : gS} {x : Int32} (hn : (if x < 2 then (2 : Int32) else if x ≤ 8 then x else 8) = nI G.1) (hz : ∀ (k : gK) (f : Nat), 20 ≤ k.1 → S.1 k f = 0 ∧ S.2 k f = none) : gMx G la qy_Z_init qw_Z_init 1 25 3000 (248 + (G.1 + 7) * G.1 + 1) (248 + (G.1 + 7) * G.1 + 26) [.inr (some (20, 0, 0)), .inl x] S (fun v S' => v = none ∧ S' = sZ S G.1) := by
  refine gMx_of (cc := qc_Z_init) (maxL := 2) (by decide) rfl (Nat.le_of_ble_eq_true rfl) ?_
  intro E cx hnx hr hnm hcz hsz hEl
  subst hEl
  refine gz_aload_n (pc := 0) cx qd_Z_init_0 rfl rfl ?_
  refine gz_objInit (pc := 1) cx qo_Z_1 qd_Z_init_1 (by decide) rfl (Nat.le_of_ble_eq_true rfl) ?_
  refine gz_aload_n (pc := 4) cx qd_Z_init_4 rfl rfl ?_
  refine gz_sipush (v := 1920) (pc := 5) cx qd_Z_init_5 (by decide) ?_
  refine gz_newarray (at0 := .int) (ty := 0) (pc := 8) cx rfl qr_int rfl (by decide) (by decide) qd_Z_init_8 (go_z (j := 1) (by decide)) rfl rfl (by decide) (fun j hj => (hz (21, 0, 0) j (by simp)).1) ⟨by omega, by have := gNf_v; omega⟩ ?_
  refine gz_putR (pc := 10) cx qp_Z_7 qd_Z_init_10 (gKs_has (go_z (j := 0) (by decide)) (by omega)) rfl rfl (fun x => by cases x <;> exact ⟨rfl, rfl⟩) (fun _ => hnm) ?_
  refine gz_aload_n (pc := 13) cx qd_Z_init_13 rfl rfl ?_
  refine gz_bipush (v := 32) (pc := 14) cx qd_Z_init_14 (by decide) ?_
  refine gz_newarray (at0 := .int) (ty := 0) (pc := 16) cx rfl qr_int rfl (by decide) (by decide) qd_Z_init_16 (go_z (j := 2) (by decide)) rfl rfl (by decide) (fun j hj => (hz (22, 0, 0) j (by simp)).1) ⟨by omega, by have := gNf_v; omega⟩ ?_
  refine gz_putR (pc := 18) cx qp_Z_13 qd_Z_init_18 (gKs_has (go_z (j := 0) (by decide)) (by omega)) rfl rfl (fun x => by cases x <;> exact ⟨rfl, rfl⟩) (fun _ => hnm) ?_
  refine gz_aload_n (pc := 21) cx qd_Z_init_21 rfl rfl ?_
  refine gz_bipush (v := 64) (pc := 22) cx qd_Z_init_22 (by decide) ?_
  refine gz_newarray (at0 := .boolean) (ty := 1) (pc := 24) cx rfl qr_boolean rfl (by decide) (by decide) qd_Z_init_24 (go_z (j := 3) (by decide)) rfl rfl (by decide) (fun j hj => (hz (23, 0, 0) j (by simp)).1) ⟨by omega, by have := gNf_v; omega⟩ ?_
  refine gz_putR (pc := 26) cx qp_Z_16 qd_Z_init_26 (gKs_has (go_z (j := 0) (by decide)) (by omega)) rfl rfl (fun x => by cases x <;> exact ⟨rfl, rfl⟩) (fun _ => hnm) ?_
  refine gz_aload_n (pc := 29) cx qd_Z_init_29 rfl rfl ?_
  refine gz_bipush (v := 8) (pc := 30) cx qd_Z_init_30 (by decide) ?_
  refine gz_newarray (at0 := .boolean) (ty := 1) (pc := 32) cx rfl qr_boolean rfl (by decide) (by decide) qd_Z_init_32 (go_z (j := 4) (by decide)) rfl rfl (by decide) (fun j hj => (hz (24, 0, 0) j (by simp)).1) ⟨by omega, by have := gNf_v; omega⟩ ?_
  refine gz_putR (pc := 34) cx qp_Z_20 qd_Z_init_34 (gKs_has (go_z (j := 0) (by decide)) (by omega)) rfl rfl (fun x => by cases x <;> exact ⟨rfl, rfl⟩) (fun _ => hnm) ?_
  refine gz_aload_n (pc := 37) cx qd_Z_init_37 rfl rfl ?_
  refine gz_bipush (v := 8) (pc := 38) cx qd_Z_init_38 (by decide) ?_
  refine gz_newarray (at0 := .int) (ty := 0) (pc := 40) cx rfl qr_int rfl (by decide) (by decide) qd_Z_init_40 (go_z (j := 5) (by decide)) rfl rfl (by decide) (fun j hj => (hz (25, 0, 0) j (by simp)).1) ⟨by omega, by have := gNf_v; omega⟩ ?_
  refine gz_putR (pc := 42) cx qp_Z_23 qd_Z_init_42 (gKs_has (go_z (j := 0) (by decide)) (by omega)) rfl rfl (fun x => by cases x <;> exact ⟨rfl, rfl⟩) (fun _ => hnm) ?_
  refine gz_aload_n (pc := 45) cx qd_Z_init_45 rfl rfl ?_
  refine gz_bipush (v := 8) (pc := 46) cx qd_Z_init_46 (by decide) ?_
  refine gz_newarray (at0 := .int) (ty := 0) (pc := 48) cx rfl qr_int rfl (by decide) (by decide) qd_Z_init_48 (go_z (j := 6) (by decide)) rfl rfl (by decide) (fun j hj => (hz (26, 0, 0) j (by simp)).1) ⟨by omega, by have := gNf_v; omega⟩ ?_
  refine gz_putR (pc := 50) cx qp_Z_26 qd_Z_init_50 (gKs_has (go_z (j := 0) (by decide)) (by omega)) rfl rfl (fun x => by cases x <;> exact ⟨rfl, rfl⟩) (fun _ => hnm) ?_
  refine gz_aload_n (pc := 53) cx qd_Z_init_53 rfl rfl ?_
  refine gz_bipush (v := 64) (pc := 54) cx qd_Z_init_54 (by decide) ?_
  refine gz_newarray (at0 := .int) (ty := 0) (pc := 56) cx rfl qr_int rfl (by decide) (by decide) qd_Z_init_56 (go_z (j := 7) (by decide)) rfl rfl (by decide) (fun j hj => (hz (27, 0, 0) j (by simp)).1) ⟨by omega, by have := gNf_v; omega⟩ ?_
  refine gz_putR (pc := 58) cx qp_Z_29 qd_Z_init_58 (gKs_has (go_z (j := 0) (by decide)) (by omega)) rfl rfl (fun x => by cases x <;> exact ⟨rfl, rfl⟩) (fun _ => hnm) ?_
  refine gz_aload_n (pc := 61) cx qd_Z_init_61 rfl rfl ?_
  refine gz_bipush (v := 64) (pc := 62) cx qd_Z_init_62 (by decide) ?_
  refine gz_newarray (at0 := .int) (ty := 0) (pc := 64) cx rfl qr_int rfl (by decide) (by decide) qd_Z_init_64 (go_z (j := 8) (by decide)) rfl rfl (by decide) (fun j hj => (hz (28, 0, 0) j (by simp)).1) ⟨by omega, by have := gNf_v; omega⟩ ?_
  refine gz_putR (pc := 66) cx qp_Z_32 qd_Z_init_66 (gKs_has (go_z (j := 0) (by decide)) (by omega)) rfl rfl (fun x => by cases x <;> exact ⟨rfl, rfl⟩) (fun _ => hnm) ?_
  refine gz_aload_n (pc := 69) cx qd_Z_init_69 rfl rfl ?_
  refine gz_bipush (v := 64) (pc := 70) cx qd_Z_init_70 (by decide) ?_
  refine gz_newarray (at0 := .int) (ty := 0) (pc := 72) cx rfl qr_int rfl (by decide) (by decide) qd_Z_init_72 (go_z (j := 9) (by decide)) rfl rfl (by decide) (fun j hj => (hz (29, 0, 0) j (by simp)).1) ⟨by omega, by have := gNf_v; omega⟩ ?_
  refine gz_putR (pc := 74) cx qp_Z_35 qd_Z_init_74 (gKs_has (go_z (j := 0) (by decide)) (by omega)) rfl rfl (fun x => by cases x <;> exact ⟨rfl, rfl⟩) (fun _ => hnm) ?_
  refine gz_aload_n (pc := 77) cx qd_Z_init_77 rfl rfl ?_
  refine gz_bipush (v := 64) (pc := 78) cx qd_Z_init_78 (by decide) ?_
  refine gz_newarray (at0 := .int) (ty := 0) (pc := 80) cx rfl qr_int rfl (by decide) (by decide) qd_Z_init_80 (go_z (j := 10) (by decide)) rfl rfl (by decide) (fun j hj => (hz (30, 0, 0) j (by simp)).1) ⟨by omega, by have := gNf_v; omega⟩ ?_
  refine gz_putR (pc := 82) cx qp_Z_38 qd_Z_init_82 (gKs_has (go_z (j := 0) (by decide)) (by omega)) rfl rfl (fun x => by cases x <;> exact ⟨rfl, rfl⟩) (fun _ => hnm) ?_
  refine gz_aload_n (pc := 85) cx qd_Z_init_85 rfl rfl ?_
  refine gz_bipush (v := 64) (pc := 86) cx qd_Z_init_86 (by decide) ?_
  refine gz_newarray (at0 := .int) (ty := 0) (pc := 88) cx rfl qr_int rfl (by decide) (by decide) qd_Z_init_88 (go_z (j := 11) (by decide)) rfl rfl (by decide) (fun j hj => (hz (31, 0, 0) j (by simp)).1) ⟨by omega, by have := gNf_v; omega⟩ ?_
  refine gz_putR (pc := 90) cx qp_Z_41 qd_Z_init_90 (gKs_has (go_z (j := 0) (by decide)) (by omega)) rfl rfl (fun x => by cases x <;> exact ⟨rfl, rfl⟩) (fun _ => hnm) ?_
  refine gz_aload_n (pc := 93) cx qd_Z_init_93 rfl rfl ?_
  refine gz_bipush (v := 64) (pc := 94) cx qd_Z_init_94 (by decide) ?_
  refine gz_newarray (at0 := .int) (ty := 0) (pc := 96) cx rfl qr_int rfl (by decide) (by decide) qd_Z_init_96 (go_z (j := 12) (by decide)) rfl rfl (by decide) (fun j hj => (hz (32, 0, 0) j (by simp)).1) ⟨by omega, by have := gNf_v; omega⟩ ?_
  refine gz_putR (pc := 98) cx qp_Z_44 qd_Z_init_98 (gKs_has (go_z (j := 0) (by decide)) (by omega)) rfl rfl (fun x => by cases x <;> exact ⟨rfl, rfl⟩) (fun _ => hnm) ?_
  refine gz_aload_n (pc := 101) cx qd_Z_init_101 rfl rfl ?_
  refine gz_bipush (v := 64) (pc := 102) cx qd_Z_init_102 (by decide) ?_
  refine gz_newarray (at0 := .int) (ty := 0) (pc := 104) cx rfl qr_int rfl (by decide) (by decide) qd_Z_init_104 (go_z (j := 13) (by decide)) rfl rfl (by decide) (fun j hj => (hz (33, 0, 0) j (by simp)).1) ⟨by omega, by have := gNf_v; omega⟩ ?_
  refine gz_putR (pc := 106) cx qp_Z_47 qd_Z_init_106 (gKs_has (go_z (j := 0) (by decide)) (by omega)) rfl rfl (fun x => by cases x <;> exact ⟨rfl, rfl⟩) (fun _ => hnm) ?_
  refine gz_aload_n (pc := 109) cx qd_Z_init_109 rfl rfl ?_
  refine gz_bipush (v := 8) (pc := 110) cx qd_Z_init_110 (by decide) ?_
  refine gz_newarray (at0 := .int) (ty := 0) (pc := 112) cx rfl qr_int rfl (by decide) (by decide) qd_Z_init_112 (go_z (j := 14) (by decide)) rfl rfl (by decide) (fun j hj => (hz (34, 0, 0) j (by simp)).1) ⟨by omega, by have := gNf_v; omega⟩ ?_
  refine gz_putR (pc := 114) cx qp_Z_50 qd_Z_init_114 (gKs_has (go_z (j := 0) (by decide)) (by omega)) rfl rfl (fun x => by cases x <;> exact ⟨rfl, rfl⟩) (fun _ => hnm) ?_
  refine gz_aload_n (pc := 117) cx qd_Z_init_117 rfl rfl ?_
  refine gz_sipush (v := 128) (pc := 118) cx qd_Z_init_118 (by decide) ?_
  refine gz_newarray (at0 := .int) (ty := 0) (pc := 121) cx rfl qr_int rfl (by decide) (by decide) qd_Z_init_121 (go_z (j := 15) (by decide)) rfl rfl (by decide) (fun j hj => (hz (35, 0, 0) j (by simp)).1) ⟨by omega, by have := gNf_v; omega⟩ ?_
  refine gz_putR (pc := 123) cx qp_Z_53 qd_Z_init_123 (gKs_has (go_z (j := 0) (by decide)) (by omega)) rfl rfl (fun x => by cases x <;> exact ⟨rfl, rfl⟩) (fun _ => hnm) ?_
  refine gz_aload_n (pc := 126) cx qd_Z_init_126 rfl rfl ?_
  refine gz_bipush (v := 8) (pc := 127) cx qd_Z_init_127 (by decide) ?_
  refine gz_newarray (at0 := .boolean) (ty := 1) (pc := 129) cx rfl qr_boolean rfl (by decide) (by decide) qd_Z_init_129 (go_z (j := 16) (by decide)) rfl rfl (by decide) (fun j hj => (hz (36, 0, 0) j (by simp)).1) ⟨by omega, by have := gNf_v; omega⟩ ?_
  refine gz_putR (pc := 131) cx qp_Z_56 qd_Z_init_131 (gKs_has (go_z (j := 0) (by decide)) (by omega)) rfl rfl (fun x => by cases x <;> exact ⟨rfl, rfl⟩) (fun _ => hnm) ?_
  refine gz_aload_n (pc := 134) cx qd_Z_init_134 rfl rfl ?_
  refine gz_bipush (v := 8) (pc := 135) cx qd_Z_init_135 (by decide) ?_
  refine gz_newarray (at0 := .int) (ty := 0) (pc := 137) cx rfl qr_int rfl (by decide) (by decide) qd_Z_init_137 (go_z (j := 17) (by decide)) rfl rfl (by decide) (fun j hj => (hz (37, 0, 0) j (by simp)).1) ⟨by omega, by have := gNf_v; omega⟩ ?_
  refine gz_putR (pc := 139) cx qp_Z_59 qd_Z_init_139 (gKs_has (go_z (j := 0) (by decide)) (by omega)) rfl rfl (fun x => by cases x <;> exact ⟨rfl, rfl⟩) (fun _ => hnm) ?_
  refine gz_aload_n (pc := 142) cx qd_Z_init_142 rfl rfl ?_
  refine gz_bipush (v := 8) (pc := 143) cx qd_Z_init_143 (by decide) ?_
  refine gz_newarray (at0 := .int) (ty := 0) (pc := 145) cx rfl qr_int rfl (by decide) (by decide) qd_Z_init_145 (go_z (j := 18) (by decide)) rfl rfl (by decide) (fun j hj => (hz (38, 0, 0) j (by simp)).1) ⟨by omega, by have := gNf_v; omega⟩ ?_
  refine gz_putR (pc := 147) cx qp_Z_62 qd_Z_init_147 (gKs_has (go_z (j := 0) (by decide)) (by omega)) rfl rfl (fun x => by cases x <;> exact ⟨rfl, rfl⟩) (fun _ => hnm) ?_
  refine gz_aload_n (pc := 150) cx qd_Z_init_150 rfl rfl ?_
  refine gz_bipush (v := 8) (pc := 151) cx qd_Z_init_151 (by decide) ?_
  refine gz_newarray (at0 := .boolean) (ty := 1) (pc := 153) cx rfl qr_boolean rfl (by decide) (by decide) qd_Z_init_153 (go_z (j := 19) (by decide)) rfl rfl (by decide) (fun j hj => (hz (39, 0, 0) j (by simp)).1) ⟨by omega, by have := gNf_v; omega⟩ ?_
  refine gz_putR (pc := 155) cx qp_Z_65 qd_Z_init_155 (gKs_has (go_z (j := 0) (by decide)) (by omega)) rfl rfl (fun x => by cases x <;> exact ⟨rfl, rfl⟩) (fun _ => hnm) ?_
  refine gz_aload_n (pc := 158) cx qd_Z_init_158 rfl rfl ?_
  refine gz_bipush (v := 8) (pc := 159) cx qd_Z_init_159 (by decide) ?_
  refine gz_newarray (at0 := .int) (ty := 0) (pc := 161) cx rfl qr_int rfl (by decide) (by decide) qd_Z_init_161 (go_z (j := 20) (by decide)) rfl rfl (by decide) (fun j hj => (hz (40, 0, 0) j (by simp)).1) ⟨by omega, by have := gNf_v; omega⟩ ?_
  refine gz_putR (pc := 163) cx qp_Z_68 qd_Z_init_163 (gKs_has (go_z (j := 0) (by decide)) (by omega)) rfl rfl (fun x => by cases x <;> exact ⟨rfl, rfl⟩) (fun _ => hnm) ?_
  refine gz_aload_n (pc := 166) cx qd_Z_init_166 rfl rfl ?_
  refine gz_bipush (v := 8) (pc := 167) cx qd_Z_init_167 (by decide) ?_
  refine gz_newarray (at0 := .int) (ty := 0) (pc := 169) cx rfl qr_int rfl (by decide) (by decide) qd_Z_init_169 (go_z (j := 21) (by decide)) rfl rfl (by decide) (fun j hj => (hz (41, 0, 0) j (by simp)).1) ⟨by omega, by have := gNf_v; omega⟩ ?_
  refine gz_putR (pc := 171) cx qp_Z_71 qd_Z_init_171 (gKs_has (go_z (j := 0) (by decide)) (by omega)) rfl rfl (fun x => by cases x <;> exact ⟨rfl, rfl⟩) (fun _ => hnm) ?_
  refine gz_aload_n (pc := 174) cx qd_Z_init_174 rfl rfl ?_
  refine gz_bipush (v := 8) (pc := 175) cx qd_Z_init_175 (by decide) ?_
  refine gz_newarray (at0 := .int) (ty := 0) (pc := 177) cx rfl qr_int rfl (by decide) (by decide) qd_Z_init_177 (go_z (j := 22) (by decide)) rfl rfl (by decide) (fun j hj => (hz (42, 0, 0) j (by simp)).1) ⟨by omega, by have := gNf_v; omega⟩ ?_
  refine gz_putR (pc := 179) cx qp_Z_74 qd_Z_init_179 (gKs_has (go_z (j := 0) (by decide)) (by omega)) rfl rfl (fun x => by cases x <;> exact ⟨rfl, rfl⟩) (fun _ => hnm) ?_
  refine gz_aload_n (pc := 182) cx qd_Z_init_182 rfl rfl ?_
  refine gz_bipush (v := 8) (pc := 183) cx qd_Z_init_183 (by decide) ?_
  refine gz_newarray (at0 := .int) (ty := 0) (pc := 185) cx rfl qr_int rfl (by decide) (by decide) qd_Z_init_185 (go_z (j := 23) (by decide)) rfl rfl (by decide) (fun j hj => (hz (43, 0, 0) j (by simp)).1) ⟨by omega, by have := gNf_v; omega⟩ ?_
  refine gz_putR (pc := 187) cx qp_Z_77 qd_Z_init_187 (gKs_has (go_z (j := 0) (by decide)) (by omega)) rfl rfl (fun x => by cases x <;> exact ⟨rfl, rfl⟩) (fun _ => hnm) ?_
  refine gz_aload_n (pc := 190) cx qd_Z_init_190 rfl rfl ?_
  refine gz_bipush (v := 8) (pc := 191) cx qd_Z_init_191 (by decide) ?_
  refine gz_newarray (at0 := .int) (ty := 0) (pc := 193) cx rfl qr_int rfl (by decide) (by decide) qd_Z_init_193 (go_z (j := 24) (by decide)) rfl rfl (by decide) (fun j hj => (hz (44, 0, 0) j (by simp)).1) ⟨by omega, by have := gNf_v; omega⟩ ?_
  refine gz_putR (pc := 195) cx qp_Z_80 qd_Z_init_195 (gKs_has (go_z (j := 0) (by decide)) (by omega)) rfl rfl (fun x => by cases x <;> exact ⟨rfl, rfl⟩) (fun _ => hnm) ?_
  refine gz_aload_n (pc := 198) cx qd_Z_init_198 rfl rfl ?_
  refine gz_bipush (v := 8) (pc := 199) cx qd_Z_init_199 (by decide) ?_
  refine gz_newarray (at0 := .int) (ty := 0) (pc := 201) cx rfl qr_int rfl (by decide) (by decide) qd_Z_init_201 (go_z (j := 25) (by decide)) rfl rfl (by decide) (fun j hj => (hz (45, 0, 0) j (by simp)).1) ⟨by omega, by have := gNf_v; omega⟩ ?_
  refine gz_putR (pc := 203) cx qp_Z_83 qd_Z_init_203 (gKs_has (go_z (j := 0) (by decide)) (by omega)) rfl rfl (fun x => by cases x <;> exact ⟨rfl, rfl⟩) (fun _ => hnm) ?_
  refine gz_aload_n (pc := 206) cx qd_Z_init_206 rfl rfl ?_
  refine gz_iload_n (pc := 207) cx qd_Z_init_207 rfl rfl ?_
  refine gz_iconst (v := 2) (pc := 208) cx qd_Z_init_208 (by decide) ?_
  refine gz_icmp_ge (tgt := 216) (pc := 209) cx qd_Z_init_209 (by decide) (fun h209 => ?_) (fun h209 => ?_)
  · refine gz_iload_n (pc := 216) cx qd_Z_init_216 rfl rfl ?_
    refine gz_bipush (v := 8) (pc := 217) cx qd_Z_init_217 (by decide) ?_
    refine gz_icmp_le (tgt := 227) (pc := 219) cx qd_Z_init_219 (by decide) (fun h219 => ?_) (fun h219 => ?_)
    · refine gz_iload_n (pc := 227) cx qd_Z_init_227 rfl rfl ?_
      have e : (if x < 2 then (2 : Int32) else if x ≤ 8 then x else 8) = x := by rw [if_neg (Int32.not_lt.mpr h209), if_pos h219]
      rw [hn] at e
      rw [← e]
      refine gz_putI (pc := 228) cx qp_Z_86 qd_Z_init_228 (gKs_has (go_z (j := 0) (by decide)) (by omega)) rfl rfl ⟨rfl, rfl⟩ (fun _ => hnm) ?_
      refine gz_widen (c2 := 25) (s2 := 3000) (by omega) (by omega) ?_
      refine gz_return (pc := 231) cx hr qd_Z_init_231 ?_
      exact ⟨rfl, rfl⟩
    · refine gz_bipush (v := 8) (pc := 222) cx qd_Z_init_222 (by decide) ?_
      refine gz_goto (tgt := 228) (pc := 224) cx qd_Z_init_224 (by decide) ?_
      have e : (if x < 2 then (2 : Int32) else if x ≤ 8 then x else 8) = 8 := by rw [if_neg (Int32.not_lt.mpr h209), if_neg h219]
      rw [hn] at e
      rw [← e]
      refine gz_putI (pc := 228) cx qp_Z_86 qd_Z_init_228 (gKs_has (go_z (j := 0) (by decide)) (by omega)) rfl rfl ⟨rfl, rfl⟩ (fun _ => hnm) ?_
      refine gz_widen (c2 := 25) (s2 := 3000) (by omega) (by omega) ?_
      refine gz_return (pc := 231) cx hr qd_Z_init_231 ?_
      exact ⟨rfl, rfl⟩
  · refine gz_iconst (v := 2) (pc := 212) cx qd_Z_init_212 (by decide) ?_
    refine gz_goto (tgt := 228) (pc := 213) cx qd_Z_init_213 (by decide) ?_
    have e : (if x < 2 then (2 : Int32) else if x ≤ 8 then x else 8) = 2 := by rw [if_pos (Int32.not_le.mp h209)]
    rw [hn] at e
    rw [← e]
    refine gz_putI (pc := 228) cx qp_Z_86 qd_Z_init_228 (gKs_has (go_z (j := 0) (by decide)) (by omega)) rfl rfl ⟨rfl, rfl⟩ (fun _ => hnm) ?_
    refine gz_widen (c2 := 25) (s2 := 3000) (by omega) (by omega) ?_
    refine gz_return (pc := 231) cx hr qd_Z_init_231 ?_
    exact ⟨rfl, rfl⟩
