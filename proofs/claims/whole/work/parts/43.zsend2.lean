theorem gc_Z_addTable {G : gG} {la : Launch} {S : gS} {i : Nat} (hi : i < G.1) (hst : gSt G S) (h8 : G.1 ≤ 8) (hn : S.1 (20, 0, 0) 0 = nI G.1) (hc : S.1 (22, 0, 0) 6 = 0) : gM G la qy_Z_addTable qw_Z_addTable 1 0 0 (gTt G) (gTt G) [.inr (some (20, 0, 0)), .inl (nI i)] S (fun v S' => v = none ∧ S' = zTab i (zTl S i G.1) 0 S) := by
  refine gM_of (cc := qc_Z_addTable) (maxL := 3) (by decide) rfl (Nat.le_of_ble_eq_true rfl) ?_
  intro E cx hr hnm hcz hsz hEl
  subst hEl
  suffices hh : ∀ k, k ≤ G.1 → (fun k => gZ G E 0 0 (gEnd G E 0 0 (gTt G) (fun v S' => v = none ∧ S' = zTab i (zTl S i G.1) 0 S)) (gTt G) 2 [some (.inr (some (20, 0, 0))), some (.inl (nI i)), some (.inl (nI k))] [] (zTab i (zTl S i k) 0 S)) k by
    refine gz_iconst (v := 0) (pc := 0) cx qd_Z_addTable_0 (by decide) ?_
    refine gz_istore_n (pc := 1) cx qd_Z_addTable_1 rfl (Nat.le_of_ble_eq_true rfl) ?_
    exact hh 0 (Nat.zero_le _)
  refine g_upto ?_ ?_
  · have hn2 : (zTab i (zTl S i G.1) 0 S).1 (20, 0, 0) 0 = nI G.1 := (zTab_off (by simp)).trans hn
    refine gz_iload_n (pc := 2) cx qd_Z_addTable_2 rfl rfl ?_
    refine gz_aload_n (pc := 3) cx qd_Z_addTable_3 rfl rfl ?_
    refine gz_getV (pc := 4) cx qf_Z_86 qd_Z_addTable_4 gm_Z rfl rfl hn2 ?_
    refine gz_icmp_ge (tgt := 57) (pc := 7) cx qd_Z_addTable_7 (by decide) (fun _ => ?_) (fun h7 => absurd (Int32.le_refl _) h7)
    refine gz_return (pc := 57) cx hr qd_Z_addTable_57 ?_
    exact ⟨rfl, rfl⟩
  · intro k hk ih
    have hst2 : gSt G (zTab i (zTl S i k) 0 S) := hst.of (fun _ _ _ _ => by rw [zTab_2])
    have hn2 : (zTab i (zTl S i k) 0 S).1 (20, 0, 0) 0 = nI G.1 := (zTab_off (by simp)).trans hn
    have hcc : (zTab i (zTl S i k) 0 S).1 (22, 0, 0) 6 = nI (0 + (zTl S i k).length) := (zTab_22 (i := i) (l := zTl S i k) (c := 0) hc).2.1
    have hlen := zTl_len S i k
    have e27 : (zTab i (zTl S i k) 0 S).1 (27, 0, 0) (8 * i + k) = S.1 (27, 0, 0) (8 * i + k) := zTab_off (by simp)
    refine gz_iload_n (pc := 2) cx qd_Z_addTable_2 rfl rfl ?_
    refine gz_aload_n (pc := 3) cx qd_Z_addTable_3 rfl rfl ?_
    refine gz_getV (pc := 4) cx qf_Z_86 qd_Z_addTable_4 gm_Z rfl rfl hn2 ?_
    refine gz_icmp_ge (tgt := 57) (pc := 7) cx qd_Z_addTable_7 (by decide) (fun h7 => absurd h7 (nI_ge hk (by omega))) (fun _ => ?_)
    refine gz_aload_n (pc := 10) cx qd_Z_addTable_10 rfl rfl ?_
    refine gz_getR (pc := 11) cx qf_Z_29 qd_Z_addTable_11 gm_Z rfl rfl (hst2 _ _ _ rfl) ?_
    refine gz_bipush (v := 8) (pc := 14) cx qd_Z_addTable_14 (by decide) ?_
    refine gz_iload_n (pc := 16) cx qd_Z_addTable_16 rfl rfl ?_
    refine gz_imul (pc := 17) cx qd_Z_addTable_17 ?_
    refine gz_iload_n (pc := 18) cx qd_Z_addTable_18 rfl rfl ?_
    refine gz_iadd (pc := 19) cx qd_Z_addTable_19 ?_
    try rw [ix8]
    refine gz_iaload (pc := 20) cx qd_Z_addTable_20 (gm_za (by decide) (by decide)) rfl rfl (by omega) (by decide) ?_
    refine gz_if_le (tgt := 51) (pc := 21) cx qd_Z_addTable_21 (by decide) (fun h21 => ?_) (fun h21 => ?_)
    · refine gz_iinc (pc := 51) cx qd_Z_addTable_51 rfl (g_inc k) ?_
      refine gz_goto (tgt := 2) (pc := 54) cx qd_Z_addTable_54 (by decide) ?_
      refine g_swap ?_ ih
      rw [e27] at h21
      rw [zTl_s, if_pos h21]
      rfl
    · refine gz_aload_n (pc := 24) cx qd_Z_addTable_24 rfl rfl ?_
      refine gz_iload_n (pc := 25) cx qd_Z_addTable_25 rfl rfl ?_
      refine gz_aload_n (pc := 26) cx qd_Z_addTable_26 rfl rfl ?_
      refine gz_getR (pc := 27) cx qf_Z_29 qd_Z_addTable_27 gm_Z rfl rfl (hst2 _ _ _ rfl) ?_
      refine gz_bipush (v := 8) (pc := 30) cx qd_Z_addTable_30 (by decide) ?_
      refine gz_iload_n (pc := 32) cx qd_Z_addTable_32 rfl rfl ?_
      refine gz_imul (pc := 33) cx qd_Z_addTable_33 ?_
      refine gz_iload_n (pc := 34) cx qd_Z_addTable_34 rfl rfl ?_
      refine gz_iadd (pc := 35) cx qd_Z_addTable_35 ?_
      try rw [ix8]
      refine gz_iaload (pc := 36) cx qd_Z_addTable_36 (gm_za (by decide) (by decide)) rfl rfl (by omega) (by decide) ?_
      refine gz_aload_n (pc := 37) cx qd_Z_addTable_37 rfl rfl ?_
      refine gz_getR (pc := 38) cx qf_Z_32 qd_Z_addTable_38 gm_Z rfl rfl (hst2 _ _ _ rfl) ?_
      refine gz_bipush (v := 8) (pc := 41) cx qd_Z_addTable_41 (by decide) ?_
      refine gz_iload_n (pc := 43) cx qd_Z_addTable_43 rfl rfl ?_
      refine gz_imul (pc := 44) cx qd_Z_addTable_44 ?_
      refine gz_iload_n (pc := 45) cx qd_Z_addTable_45 rfl rfl ?_
      refine gz_iadd (pc := 46) cx qd_Z_addTable_46 ?_
      try rw [ix8]
      refine gz_iaload (pc := 47) cx qd_Z_addTable_47 (gm_za (by decide) (by decide)) rfl rfl (by omega) (by decide) ?_
      refine gz_callV (pc := 48) cx qv_Z_98 qd_Z_addTable_48 (gc_Z_addNews (c := 0 + (zTl S i k).length) hst2 hcc (by omega)) (by decide) rfl gm_Z rfl rfl rfl rfl (Nat.le_of_ble_eq_true rfl) ⟨Nat.zero_le _, Nat.zero_le _⟩ ?_
      rintro _ _ ⟨rfl, rfl⟩
      refine gz_iinc (pc := 51) cx qd_Z_addTable_51 rfl (g_inc k) ?_
      refine gz_goto (tgt := 2) (pc := 54) cx qd_Z_addTable_54 (by decide) ?_
      refine g_swap ?_ ih
      rw [e27] at h21
      rw [zTl_s, if_neg h21, zTab_app]
      rfl
theorem gc_Z_sendQ {G : gG} {la : Launch} {S : gS} {i z : Nat} {kind to no o g : Int32} (hi : i < G.1) (hst : gSt G S) (h8 : G.1 ≤ 8) (hn : S.1 (20, 0, 0) 0 = nI G.1) (hz : S.1 (20, 0, 0) 2 = nI z) (hz60 : z ≤ 60) (hk : kind < 6) (hpos : ∀ m, m < G.1 → 0 ≤ qz S i m) : gM G la qy_Z_send qw_Z_send 2 0 0 (gTt G) (gTt G) [.inr (some (20, 0, 0)), .inl kind, .inl (nI i), .inl to, .inl no, .inl o, .inl g] S (fun v S' => v = none ∧ S' = zPush (zFix (zQ i (mPick G.1 3 (qz S i)) 0 (zHdr S kind (nI i) to no o g)) i G.1) z) := by
  refine gM_of (cc := qc_Z_send) (maxL := 8) (by decide) rfl (Nat.le_of_ble_eq_true rfl) ?_
  intro E cx hr hnm hcz hsz hEl
  subst hEl
  have hz2 : (zFix (zQ i (mPick G.1 3 (qz S i)) 0 (zHdr S kind (nI i) to no o g)) i G.1).1 (20, 0, 0) 2 = nI z := (zFix_o (by simp)).trans ((zQ_off (by simp) (by simp)).trans ((zHdr_o (by simp)).trans hz))
  have hst2 : gSt G (zFix (zQ i (mPick G.1 3 (qz S i)) 0 (zHdr S kind (nI i) to no o g)) i G.1) := hst.of (fun _ _ _ _ => by show (zQ _ _ _ _).2 _ _ = _; rw [zQ_2]; rfl)
  have tail : gZ G E 0 0 (gEnd G E 0 0 (gTt G) (fun v S' => v = none ∧ S' = zPush (zFix (zQ i (mPick G.1 3 (qz S i)) 0 (zHdr S kind (nI i) to no o g)) i G.1) z)) (gTt G) 72 [some (.inr (some (20, 0, 0))), some (.inl kind), some (.inl (nI i)), some (.inl to), some (.inl no), some (.inl o), some (.inl g), none] [] (zFix (zQ i (mPick G.1 3 (qz S i)) 0 (zHdr S kind (nI i) to no o g)) i G.1) := by
    generalize zFix (zQ i (mPick G.1 3 (qz S i)) 0 (zHdr S kind (nI i) to no o g)) i G.1 = S1 at hz2 hst2 ⊢
    refine gz_aload_n (pc := 72) cx qd_Z_send_72 rfl rfl ?_
    refine gz_getV (pc := 73) cx qf_Z_109 qd_Z_send_73 gm_Z rfl rfl hz2 ?_
    refine gz_bipush (v := 60) (pc := 76) cx qd_Z_send_76 (by decide) ?_
    refine gz_icmp_ne (tgt := 82) (pc := 78) cx qd_Z_send_78 (by decide) (fun h78 => ?_) (fun h78 => ?_)
    · have e60 : z = 60 ↔ nI z = 60 := (nI_eq (by omega) (by decide : 60 < 2 ^ 31)).symm
      have h60 : ¬ z = 60 := fun q => h78 (e60.mp q)
      suffices hh : ∀ k, k ≤ 32 → (fun k => gZ G E 0 0 (gEnd G E 0 0 (gTt G) (fun v S' => v = none ∧ S' = zPush S1 z)) (gTt G) 85 [some (.inr (some (20, 0, 0))), some (.inl kind), some (.inl (nI i)), some (.inl to), some (.inl no), some (.inl o), some (.inl g), some (.inl (nI k))] [] (zCopy S1 z k)) k by
        refine gz_iconst (v := 0) (pc := 82) cx qd_Z_send_82 (by decide) ?_
        refine gz_istore (pc := 83) cx qd_Z_send_83 (Nat.le_of_ble_eq_true rfl) ?_
        have h0 := hh 0 (Nat.zero_le _)
        dsimp only at h0
        rw [zCopy_0] at h0
        exact h0
      refine g_upto ?_ ?_
      · refine gz_iload (pc := 85) cx qd_Z_send_85 rfl ?_
        refine gz_bipush (v := 32) (pc := 87) cx qd_Z_send_87 (by decide) ?_
        refine gz_icmp_ge (tgt := 120) (pc := 89) cx qd_Z_send_89 (by decide) (fun _ => ?_) (fun h89 => absurd (Int32.le_refl _) h89)
        refine gz_aload_n (pc := 120) cx qd_Z_send_120 rfl rfl ?_
        refine gz_dup (pc := 121) cx qd_Z_send_121 ?_
        refine gz_getV (pc := 122) cx qf_Z_109 qd_Z_send_122 gm_Z rfl rfl ((zCopy_o (by simp)).trans hz2) ?_
        refine gz_iconst (v := 1) (pc := 125) cx qd_Z_send_125 (by decide) ?_
        refine gz_iadd (pc := 126) cx qd_Z_send_126 ?_
        refine gz_putI (pc := 127) cx qp_Z_109 qd_Z_send_127 gm_Z rfl rfl ⟨rfl, rfl⟩ (fun h => nomatch h) ?_
        refine gz_return (pc := 130) cx hr qd_Z_send_130 ?_
        refine ⟨rfl, ?_⟩
        unfold zPush
        rw [if_neg h60, nI_succ]
      · intro k hk ih
        refine gz_iload (pc := 85) cx qd_Z_send_85 rfl ?_
        refine gz_bipush (v := 32) (pc := 87) cx qd_Z_send_87 (by decide) ?_
        refine gz_icmp_ge (tgt := 120) (pc := 89) cx qd_Z_send_89 (by decide) (fun h89 => absurd h89 (nI_ge (b := 32) hk (by decide))) (fun _ => ?_)
        refine gz_aload_n (pc := 92) cx qd_Z_send_92 rfl rfl ?_
        refine gz_getR (pc := 93) cx qf_Z_7 qd_Z_send_93 gm_Z rfl rfl (show (zCopy S1 z k).2 (20, 0, 0) _ = _ from hst2 _ _ _ rfl) ?_
        refine gz_bipush (v := 32) (pc := 96) cx qd_Z_send_96 (by decide) ?_
        refine gz_aload_n (pc := 98) cx qd_Z_send_98 rfl rfl ?_
        refine gz_getV (pc := 99) cx qf_Z_109 qd_Z_send_99 gm_Z rfl rfl ((zCopy_o (by simp)).trans hz2) ?_
        refine gz_imul (pc := 102) cx qd_Z_send_102 ?_
        refine gz_iload (pc := 103) cx qd_Z_send_103 rfl ?_
        refine gz_iadd (pc := 105) cx qd_Z_send_105 ?_
        try rw [ix32]
        refine gz_aload_n (pc := 106) cx qd_Z_send_106 rfl rfl ?_
        refine gz_getR (pc := 107) cx qf_Z_13 qd_Z_send_107 gm_Z rfl rfl (show (zCopy S1 z k).2 (20, 0, 0) _ = _ from hst2 _ _ _ rfl) ?_
        refine gz_iload (pc := 110) cx qd_Z_send_110 rfl ?_
        refine gz_iaload (pc := 112) cx qd_Z_send_112 (gm_za (by decide) (by decide)) rfl rfl (by omega) (by decide) ?_
        refine gz_iastore (pc := 113) cx qd_Z_send_113 (gm_za (by decide) (by decide)) rfl rfl (by omega) (by decide) ?_
        refine gz_iinc (pc := 114) cx qd_Z_send_114 rfl (g_inc k) ?_
        refine gz_goto (tgt := 85) (pc := 117) cx qd_Z_send_117 (by decide) ?_
        have e22 : (zCopy S1 z k).1 (22, 0, 0) k = S1.1 (22, 0, 0) k := zCopy_o (by simp)
        rw [e22, zCopy_s]
        exact ih
    · refine gz_return (pc := 81) cx hr qd_Z_send_81 ?_
      have e60 : z = 60 ↔ nI z = 60 := (nI_eq (by omega) (by decide : 60 < 2 ^ 31)).symm
      unfold zPush
      rw [if_pos (e60.mpr h78)]
      exact ⟨rfl, rfl⟩
  refine gz_aload_n (pc := 0) cx qd_Z_send_0 rfl rfl ?_
  refine gz_getR (pc := 1) cx qf_Z_13 qd_Z_send_1 gm_Z rfl rfl (hst _ _ _ rfl) ?_
  refine gz_iconst (v := 0) (pc := 4) cx qd_Z_send_4 (by decide) ?_
  refine gz_iload_n (pc := 5) cx qd_Z_send_5 rfl rfl ?_
  refine gz_iastore (pc := 6) cx qd_Z_send_6 (gm_za (by decide) (by decide)) rfl (g_lit 0) (by omega) (by decide) ?_
  refine gz_aload_n (pc := 7) cx qd_Z_send_7 rfl rfl ?_
  refine gz_getR (pc := 8) cx qf_Z_13 qd_Z_send_8 gm_Z rfl rfl (hst _ _ _ rfl) ?_
  refine gz_iconst (v := 1) (pc := 11) cx qd_Z_send_11 (by decide) ?_
  refine gz_iload_n (pc := 12) cx qd_Z_send_12 rfl rfl ?_
  refine gz_iastore (pc := 13) cx qd_Z_send_13 (gm_za (by decide) (by decide)) rfl (g_lit 1) (by omega) (by decide) ?_
  refine gz_aload_n (pc := 14) cx qd_Z_send_14 rfl rfl ?_
  refine gz_getR (pc := 15) cx qf_Z_13 qd_Z_send_15 gm_Z rfl rfl (hst _ _ _ rfl) ?_
  refine gz_iconst (v := 2) (pc := 18) cx qd_Z_send_18 (by decide) ?_
  refine gz_iload_n (pc := 19) cx qd_Z_send_19 rfl rfl ?_
  refine gz_iastore (pc := 20) cx qd_Z_send_20 (gm_za (by decide) (by decide)) rfl (g_lit 2) (by omega) (by decide) ?_
  refine gz_aload_n (pc := 21) cx qd_Z_send_21 rfl rfl ?_
  refine gz_getR (pc := 22) cx qf_Z_13 qd_Z_send_22 gm_Z rfl rfl (hst _ _ _ rfl) ?_
  refine gz_iconst (v := 3) (pc := 25) cx qd_Z_send_25 (by decide) ?_
  refine gz_iload (pc := 26) cx qd_Z_send_26 rfl ?_
  refine gz_iastore (pc := 28) cx qd_Z_send_28 (gm_za (by decide) (by decide)) rfl (g_lit 3) (by omega) (by decide) ?_
  refine gz_aload_n (pc := 29) cx qd_Z_send_29 rfl rfl ?_
  refine gz_getR (pc := 30) cx qf_Z_13 qd_Z_send_30 gm_Z rfl rfl (hst _ _ _ rfl) ?_
  refine gz_iconst (v := 4) (pc := 33) cx qd_Z_send_33 (by decide) ?_
  refine gz_iload (pc := 34) cx qd_Z_send_34 rfl ?_
  refine gz_iastore (pc := 36) cx qd_Z_send_36 (gm_za (by decide) (by decide)) rfl (g_lit 4) (by omega) (by decide) ?_
  refine gz_aload_n (pc := 37) cx qd_Z_send_37 rfl rfl ?_
  refine gz_getR (pc := 38) cx qf_Z_13 qd_Z_send_38 gm_Z rfl rfl (hst _ _ _ rfl) ?_
  refine gz_iconst (v := 5) (pc := 41) cx qd_Z_send_41 (by decide) ?_
  refine gz_iload (pc := 42) cx qd_Z_send_42 rfl ?_
  refine gz_iastore (pc := 44) cx qd_Z_send_44 (gm_za (by decide) (by decide)) rfl (g_lit 5) (by omega) (by decide) ?_
  refine gz_aload_n (pc := 45) cx qd_Z_send_45 rfl rfl ?_
  refine gz_getR (pc := 46) cx qf_Z_13 qd_Z_send_46 gm_Z rfl rfl (hst _ _ _ rfl) ?_
  refine gz_bipush (v := 6) (pc := 49) cx qd_Z_send_49 (by decide) ?_
  refine gz_iconst (v := 0) (pc := 51) cx qd_Z_send_51 (by decide) ?_
  refine gz_iastore (pc := 52) cx qd_Z_send_52 (gm_za (by decide) (by decide)) rfl (g_lit 6) (by omega) (by decide) ?_
  refine gz_iload_n (pc := 53) cx qd_Z_send_53 rfl rfl ?_
  refine gz_bipush (v := 6) (pc := 54) cx qd_Z_send_54 (by decide) ?_
  refine gz_icmp_ge (tgt := 67) (pc := 56) cx qd_Z_send_56 (by decide) (fun h56 => absurd hk (Int32.not_lt.mpr h56)) (fun _ => ?_)
  refine gz_aload_n (pc := 59) cx qd_Z_send_59 rfl rfl ?_
  refine gz_iload_n (pc := 60) cx qd_Z_send_60 rfl rfl ?_
  refine gz_callV (pc := 61) cx qv_Z_102 qd_Z_send_61 (gc_Z_addQueued (S := zHdr S kind (nI i) to no o g) hi hst h8 ((zHdr_o (by simp)).trans hn) (by simp [zHdr, gI1]) (fun m hm => by unfold qz; rw [zHdr_o (by simp)]; exact hpos m hm)) (by decide) rfl gm_Z rfl rfl rfl rfl (Nat.le_of_ble_eq_true rfl) ⟨Nat.zero_le _, Nat.zero_le _⟩ ?_
  rintro _ _ ⟨rfl, rfl⟩
  refine gz_goto (tgt := 72) (pc := 64) cx qd_Z_send_64 (by decide) ?_
  exact tail
theorem gc_Z_sendT {G : gG} {la : Launch} {S : gS} {i z : Nat} {kind to no o g : Int32} (hi : i < G.1) (hst : gSt G S) (h8 : G.1 ≤ 8) (hn : S.1 (20, 0, 0) 0 = nI G.1) (hz : S.1 (20, 0, 0) 2 = nI z) (hz60 : z ≤ 60) (hk : ¬ kind < 6) : gM G la qy_Z_send qw_Z_send 2 0 0 (gTt G) (gTt G) [.inr (some (20, 0, 0)), .inl kind, .inl (nI i), .inl to, .inl no, .inl o, .inl g] S (fun v S' => v = none ∧ S' = zPush (zTab i (zTl S i G.1) 0 (zHdr S kind (nI i) to no o g)) z) := by
  refine gM_of (cc := qc_Z_send) (maxL := 8) (by decide) rfl (Nat.le_of_ble_eq_true rfl) ?_
  intro E cx hr hnm hcz hsz hEl
  subst hEl
  have hz2 : (zTab i (zTl S i G.1) 0 (zHdr S kind (nI i) to no o g)).1 (20, 0, 0) 2 = nI z := (zTab_off (by simp)).trans ((zHdr_o (by simp)).trans hz)
  have hst2 : gSt G (zTab i (zTl S i G.1) 0 (zHdr S kind (nI i) to no o g)) := hst.of (fun _ _ _ _ => by rw [zTab_2]; rfl)
  have tail : gZ G E 0 0 (gEnd G E 0 0 (gTt G) (fun v S' => v = none ∧ S' = zPush (zTab i (zTl S i G.1) 0 (zHdr S kind (nI i) to no o g)) z)) (gTt G) 72 [some (.inr (some (20, 0, 0))), some (.inl kind), some (.inl (nI i)), some (.inl to), some (.inl no), some (.inl o), some (.inl g), none] [] (zTab i (zTl S i G.1) 0 (zHdr S kind (nI i) to no o g)) := by
    generalize zTab i (zTl S i G.1) 0 (zHdr S kind (nI i) to no o g) = S1 at hz2 hst2 ⊢
    refine gz_aload_n (pc := 72) cx qd_Z_send_72 rfl rfl ?_
    refine gz_getV (pc := 73) cx qf_Z_109 qd_Z_send_73 gm_Z rfl rfl hz2 ?_
    refine gz_bipush (v := 60) (pc := 76) cx qd_Z_send_76 (by decide) ?_
    refine gz_icmp_ne (tgt := 82) (pc := 78) cx qd_Z_send_78 (by decide) (fun h78 => ?_) (fun h78 => ?_)
    · have e60 : z = 60 ↔ nI z = 60 := (nI_eq (by omega) (by decide : 60 < 2 ^ 31)).symm
      have h60 : ¬ z = 60 := fun q => h78 (e60.mp q)
      suffices hh : ∀ k, k ≤ 32 → (fun k => gZ G E 0 0 (gEnd G E 0 0 (gTt G) (fun v S' => v = none ∧ S' = zPush S1 z)) (gTt G) 85 [some (.inr (some (20, 0, 0))), some (.inl kind), some (.inl (nI i)), some (.inl to), some (.inl no), some (.inl o), some (.inl g), some (.inl (nI k))] [] (zCopy S1 z k)) k by
        refine gz_iconst (v := 0) (pc := 82) cx qd_Z_send_82 (by decide) ?_
        refine gz_istore (pc := 83) cx qd_Z_send_83 (Nat.le_of_ble_eq_true rfl) ?_
        have h0 := hh 0 (Nat.zero_le _)
        dsimp only at h0
        rw [zCopy_0] at h0
        exact h0
      refine g_upto ?_ ?_
      · refine gz_iload (pc := 85) cx qd_Z_send_85 rfl ?_
        refine gz_bipush (v := 32) (pc := 87) cx qd_Z_send_87 (by decide) ?_
        refine gz_icmp_ge (tgt := 120) (pc := 89) cx qd_Z_send_89 (by decide) (fun _ => ?_) (fun h89 => absurd (Int32.le_refl _) h89)
        refine gz_aload_n (pc := 120) cx qd_Z_send_120 rfl rfl ?_
        refine gz_dup (pc := 121) cx qd_Z_send_121 ?_
        refine gz_getV (pc := 122) cx qf_Z_109 qd_Z_send_122 gm_Z rfl rfl ((zCopy_o (by simp)).trans hz2) ?_
        refine gz_iconst (v := 1) (pc := 125) cx qd_Z_send_125 (by decide) ?_
        refine gz_iadd (pc := 126) cx qd_Z_send_126 ?_
        refine gz_putI (pc := 127) cx qp_Z_109 qd_Z_send_127 gm_Z rfl rfl ⟨rfl, rfl⟩ (fun h => nomatch h) ?_
        refine gz_return (pc := 130) cx hr qd_Z_send_130 ?_
        refine ⟨rfl, ?_⟩
        unfold zPush
        rw [if_neg h60, nI_succ]
      · intro k hk ih
        refine gz_iload (pc := 85) cx qd_Z_send_85 rfl ?_
        refine gz_bipush (v := 32) (pc := 87) cx qd_Z_send_87 (by decide) ?_
        refine gz_icmp_ge (tgt := 120) (pc := 89) cx qd_Z_send_89 (by decide) (fun h89 => absurd h89 (nI_ge (b := 32) hk (by decide))) (fun _ => ?_)
        refine gz_aload_n (pc := 92) cx qd_Z_send_92 rfl rfl ?_
        refine gz_getR (pc := 93) cx qf_Z_7 qd_Z_send_93 gm_Z rfl rfl (show (zCopy S1 z k).2 (20, 0, 0) _ = _ from hst2 _ _ _ rfl) ?_
        refine gz_bipush (v := 32) (pc := 96) cx qd_Z_send_96 (by decide) ?_
        refine gz_aload_n (pc := 98) cx qd_Z_send_98 rfl rfl ?_
        refine gz_getV (pc := 99) cx qf_Z_109 qd_Z_send_99 gm_Z rfl rfl ((zCopy_o (by simp)).trans hz2) ?_
        refine gz_imul (pc := 102) cx qd_Z_send_102 ?_
        refine gz_iload (pc := 103) cx qd_Z_send_103 rfl ?_
        refine gz_iadd (pc := 105) cx qd_Z_send_105 ?_
        try rw [ix32]
        refine gz_aload_n (pc := 106) cx qd_Z_send_106 rfl rfl ?_
        refine gz_getR (pc := 107) cx qf_Z_13 qd_Z_send_107 gm_Z rfl rfl (show (zCopy S1 z k).2 (20, 0, 0) _ = _ from hst2 _ _ _ rfl) ?_
        refine gz_iload (pc := 110) cx qd_Z_send_110 rfl ?_
        refine gz_iaload (pc := 112) cx qd_Z_send_112 (gm_za (by decide) (by decide)) rfl rfl (by omega) (by decide) ?_
        refine gz_iastore (pc := 113) cx qd_Z_send_113 (gm_za (by decide) (by decide)) rfl rfl (by omega) (by decide) ?_
        refine gz_iinc (pc := 114) cx qd_Z_send_114 rfl (g_inc k) ?_
        refine gz_goto (tgt := 85) (pc := 117) cx qd_Z_send_117 (by decide) ?_
        have e22 : (zCopy S1 z k).1 (22, 0, 0) k = S1.1 (22, 0, 0) k := zCopy_o (by simp)
        rw [e22, zCopy_s]
        exact ih
    · refine gz_return (pc := 81) cx hr qd_Z_send_81 ?_
      have e60 : z = 60 ↔ nI z = 60 := (nI_eq (by omega) (by decide : 60 < 2 ^ 31)).symm
      unfold zPush
      rw [if_pos (e60.mpr h78)]
      exact ⟨rfl, rfl⟩
  refine gz_aload_n (pc := 0) cx qd_Z_send_0 rfl rfl ?_
  refine gz_getR (pc := 1) cx qf_Z_13 qd_Z_send_1 gm_Z rfl rfl (hst _ _ _ rfl) ?_
  refine gz_iconst (v := 0) (pc := 4) cx qd_Z_send_4 (by decide) ?_
  refine gz_iload_n (pc := 5) cx qd_Z_send_5 rfl rfl ?_
  refine gz_iastore (pc := 6) cx qd_Z_send_6 (gm_za (by decide) (by decide)) rfl (g_lit 0) (by omega) (by decide) ?_
  refine gz_aload_n (pc := 7) cx qd_Z_send_7 rfl rfl ?_
  refine gz_getR (pc := 8) cx qf_Z_13 qd_Z_send_8 gm_Z rfl rfl (hst _ _ _ rfl) ?_
  refine gz_iconst (v := 1) (pc := 11) cx qd_Z_send_11 (by decide) ?_
  refine gz_iload_n (pc := 12) cx qd_Z_send_12 rfl rfl ?_
  refine gz_iastore (pc := 13) cx qd_Z_send_13 (gm_za (by decide) (by decide)) rfl (g_lit 1) (by omega) (by decide) ?_
  refine gz_aload_n (pc := 14) cx qd_Z_send_14 rfl rfl ?_
  refine gz_getR (pc := 15) cx qf_Z_13 qd_Z_send_15 gm_Z rfl rfl (hst _ _ _ rfl) ?_
  refine gz_iconst (v := 2) (pc := 18) cx qd_Z_send_18 (by decide) ?_
  refine gz_iload_n (pc := 19) cx qd_Z_send_19 rfl rfl ?_
  refine gz_iastore (pc := 20) cx qd_Z_send_20 (gm_za (by decide) (by decide)) rfl (g_lit 2) (by omega) (by decide) ?_
  refine gz_aload_n (pc := 21) cx qd_Z_send_21 rfl rfl ?_
  refine gz_getR (pc := 22) cx qf_Z_13 qd_Z_send_22 gm_Z rfl rfl (hst _ _ _ rfl) ?_
  refine gz_iconst (v := 3) (pc := 25) cx qd_Z_send_25 (by decide) ?_
  refine gz_iload (pc := 26) cx qd_Z_send_26 rfl ?_
  refine gz_iastore (pc := 28) cx qd_Z_send_28 (gm_za (by decide) (by decide)) rfl (g_lit 3) (by omega) (by decide) ?_
  refine gz_aload_n (pc := 29) cx qd_Z_send_29 rfl rfl ?_
  refine gz_getR (pc := 30) cx qf_Z_13 qd_Z_send_30 gm_Z rfl rfl (hst _ _ _ rfl) ?_
  refine gz_iconst (v := 4) (pc := 33) cx qd_Z_send_33 (by decide) ?_
  refine gz_iload (pc := 34) cx qd_Z_send_34 rfl ?_
  refine gz_iastore (pc := 36) cx qd_Z_send_36 (gm_za (by decide) (by decide)) rfl (g_lit 4) (by omega) (by decide) ?_
  refine gz_aload_n (pc := 37) cx qd_Z_send_37 rfl rfl ?_
  refine gz_getR (pc := 38) cx qf_Z_13 qd_Z_send_38 gm_Z rfl rfl (hst _ _ _ rfl) ?_
  refine gz_iconst (v := 5) (pc := 41) cx qd_Z_send_41 (by decide) ?_
  refine gz_iload (pc := 42) cx qd_Z_send_42 rfl ?_
  refine gz_iastore (pc := 44) cx qd_Z_send_44 (gm_za (by decide) (by decide)) rfl (g_lit 5) (by omega) (by decide) ?_
  refine gz_aload_n (pc := 45) cx qd_Z_send_45 rfl rfl ?_
  refine gz_getR (pc := 46) cx qf_Z_13 qd_Z_send_46 gm_Z rfl rfl (hst _ _ _ rfl) ?_
  refine gz_bipush (v := 6) (pc := 49) cx qd_Z_send_49 (by decide) ?_
  refine gz_iconst (v := 0) (pc := 51) cx qd_Z_send_51 (by decide) ?_
  refine gz_iastore (pc := 52) cx qd_Z_send_52 (gm_za (by decide) (by decide)) rfl (g_lit 6) (by omega) (by decide) ?_
  refine gz_iload_n (pc := 53) cx qd_Z_send_53 rfl rfl ?_
  refine gz_bipush (v := 6) (pc := 54) cx qd_Z_send_54 (by decide) ?_
  refine gz_icmp_ge (tgt := 67) (pc := 56) cx qd_Z_send_56 (by decide) (fun _ => ?_) (fun h56 => absurd (Int32.not_lt.mp hk) h56)
  refine gz_aload_n (pc := 67) cx qd_Z_send_67 rfl rfl ?_
  refine gz_iload_n (pc := 68) cx qd_Z_send_68 rfl rfl ?_
  refine gz_callV (pc := 69) cx qv_Z_106 qd_Z_send_69 (gc_Z_addTable (S := zHdr S kind (nI i) to no o g) hi hst h8 ((zHdr_o (by simp)).trans hn) (by simp [zHdr, gI1])) (by decide) rfl gm_Z rfl rfl rfl rfl (Nat.le_of_ble_eq_true rfl) ⟨Nat.zero_le _, Nat.zero_le _⟩ ?_
  rintro _ _ ⟨rfl, rfl⟩
  exact tail
