theorem g_nm1 {b : Nat} (h : b < 2 ^ 31) : ¬ nI b = -1 := fun q => absurd (nI_pos h) (by rw [q]; decide)
theorem qm_q {a i : Nat} {l : List Nat} {S : gS} : qm (sQ a i l 0 S) i l = qm S i l := by
  funext m
  unfold qm
  by_cases h : m ∈ l
  · rw [if_pos h, if_pos h]
  · rw [if_neg h, if_neg h]
    exact sQ_off (by simp) (fun q => by cases q) (fun _ => Or.inr (Or.inr h))
theorem qm_s {i b : Nat} {l : List Nat} {S : gS} : (fun m => if m = b then 0 else qm S i l m) = qm S i (l ++ [b]) := by
  funext m
  unfold qm
  by_cases h : m = b
  · simp [h]
  · by_cases h2 : m ∈ l <;> simp [h, h2]
theorem gc_N_loadQueued {G : gG} {la : Launch} {S : gS} {i a : Nat} (hi : i < G.1) (ha : a < 121) (hK : cK G S) (hc : S.1 (5, a, 0) 6 = 0) : gM G la qy_N_loadQueued qw_N_loadQueued 1 0 0 (gTt G) (gTt G) [.inr (some (7, i, 0)), .inr (some (5, a, 0))] S (fun v S' => v = none ∧ S' = sQ a i (mPick G.1 3 (qm S i [])) 0 S) := by
  refine gM_of (cc := qc_N_loadQueued) (maxL := 5) (by decide) rfl (Nat.le_of_ble_eq_true rfl) ?_
  intro E cx hr hnm hcz hsz hEl
  subst hEl
  have h8 := hK.2.1
  suffices h : ∀ rem r, r + rem = 3 → ∀ (l : List Nat) (mk : Int32), l.length = r → (∀ m ∈ l, m < G.1) → isMk mk l → mPick G.1 3 (qm S i []) = l ++ mPick G.1 rem (qm S i l) → gZ G E 0 0 (gEnd G E 0 0 (gTt G) (fun v S' => v = none ∧ S' = sQ a i (mPick G.1 3 (qm S i [])) 0 S)) (gTt G) 4 [some (.inr (some (7, i, 0))), some (.inr (some (5, a, 0))), some (.inl mk), some (.inl (nI r)), none] [] (sQ a i l 0 S) by
    refine gz_iconst (v := 0) (pc := 0) cx qd_N_loadQueued_0 (by decide) ?_
    refine gz_istore_n (pc := 1) cx qd_N_loadQueued_1 rfl (Nat.le_of_ble_eq_true rfl) ?_
    refine gz_iconst (v := 0) (pc := 2) cx qd_N_loadQueued_2 (by decide) ?_
    refine gz_istore_n (pc := 3) cx qd_N_loadQueued_3 rfl (Nat.le_of_ble_eq_true rfl) ?_
    exact h 3 0 rfl [] 0 rfl (by simp) isMk_0 rfl
  intro rem
  induction rem with
  | zero =>
    intro r hr3 l mk hl hlt hmk he
    obtain rfl : r = 3 := by omega
    refine gz_iload_n (pc := 4) cx qd_N_loadQueued_4 rfl rfl ?_
    refine gz_iconst (v := 3) (pc := 5) cx qd_N_loadQueued_5 (by decide) ?_
    refine gz_icmp_ge (tgt := 65) (pc := 6) cx qd_N_loadQueued_6 (by decide) (fun _ => ?_) (fun h6 => absurd (Int32.le_refl _ : (3 : Int32) ≤ nI 3) h6)
    refine gz_return (pc := 65) cx hr qd_N_loadQueued_65 ?_
    refine ⟨rfl, ?_⟩
    rw [he, mPick, List.append_nil]
  | succ rem ih =>
    intro r hr3 l mk hl hlt hmk he
    have hKr : cK G (sQ a i l 0 S) := hK.q
    have hst := hKr.1
    have hcc : (sQ a i l 0 S).1 (5, a, 0) 6 = nI (0 + l.length) := sQ_c (c := 0) hc
    refine gz_iload_n (pc := 4) cx qd_N_loadQueued_4 rfl rfl ?_
    refine gz_iconst (v := 3) (pc := 5) cx qd_N_loadQueued_5 (by decide) ?_
    refine gz_icmp_ge (tgt := 65) (pc := 6) cx qd_N_loadQueued_6 (by decide) (fun h6 => absurd h6 (nI_ge (b := 3) (by omega) (by decide))) (fun _ => ?_)
    refine gz_aload_n (pc := 9) cx qd_N_loadQueued_9 rfl rfl ?_
    refine gz_iload_n (pc := 10) cx qd_N_loadQueued_10 rfl rfl ?_
    refine gz_callV (pc := 11) cx qv_N_118 qd_N_loadQueued_11 (gc_N_mostToSend hi hKr hmk) (by decide) rfl (gm_N (by assumption)) rfl rfl rfl rfl (Nat.le_of_ble_eq_true rfl) ⟨Nat.zero_le _, Nat.zero_le _⟩ ?_
    rintro _ _ ⟨rfl, rfl⟩
    rw [qm_q]
    cases hb : mBest (qm S i l) G.1 with
    | none =>
      refine gz_istore (pc := 14) cx qd_N_loadQueued_14 (Nat.le_of_ble_eq_true rfl) ?_
      refine gz_iload (pc := 16) cx qd_N_loadQueued_16 rfl ?_
      refine gz_iconst (v := -1) (pc := 18) cx qd_N_loadQueued_18 (by decide) ?_
      refine gz_icmp_ne (tgt := 23) (pc := 19) cx qd_N_loadQueued_19 (by decide) (fun h19 => absurd rfl h19) (fun _ => ?_)
      refine gz_return (pc := 22) cx hr qd_N_loadQueued_22 ?_
      refine ⟨rfl, ?_⟩
      rw [he, mPick, hb, List.append_nil]
    | some b =>
      have hbn := (mBest_lt hb).1
      refine gz_istore (pc := 14) cx qd_N_loadQueued_14 (Nat.le_of_ble_eq_true rfl) ?_
      refine gz_iload (pc := 16) cx qd_N_loadQueued_16 rfl ?_
      refine gz_iconst (v := -1) (pc := 18) cx qd_N_loadQueued_18 (by decide) ?_
      refine gz_icmp_ne (tgt := 23) (pc := 19) cx qd_N_loadQueued_19 (by decide) (fun _ => ?_) (fun h19 => absurd h19 (g_nm1 (by omega)))
      refine gz_aload_n (pc := 23) cx qd_N_loadQueued_23 rfl rfl ?_
      refine gz_iload (pc := 24) cx qd_N_loadQueued_24 rfl ?_
      refine gz_aload_n (pc := 26) cx qd_N_loadQueued_26 rfl rfl ?_
      refine gz_getR (pc := 27) cx qf_N_30 qd_N_loadQueued_27 (gm_N (by assumption)) rfl rfl (hst _ _ _ rfl) ?_
      refine gz_iload (pc := 30) cx qd_N_loadQueued_30 rfl ?_
      refine gz_aaload (pc := 32) cx qd_N_loadQueued_32 (by first | exact gm_tb (by assumption) | exact gm_ns | exact gm_cf | exact gm_w (by assumption) | exact gm_nw (by assumption) | exact gm_rs (by assumption) | exact gm_M (by assumption) | exact gm_R (by assumption) (by assumption) | exact gm_za (by decide) (by decide)) rfl ⟨by decide, by decide, rfl⟩ (hst _ _ _ rfl) (rfl : _ = nI b) (by assumption) (by omega) ?_
      refine gz_callV (pc := 33) cx qv_N_114 qd_N_loadQueued_33 (gc_M_carry (c := 0 + l.length) ha hi hbn hst hcc (by omega)) (by decide) rfl (gm_M (by assumption)) rfl rfl rfl rfl (Nat.le_of_ble_eq_true rfl) ⟨Nat.zero_le _, Nat.zero_le _⟩ ?_
      rintro _ _ ⟨rfl, rfl⟩
      refine gz_aload_n (pc := 36) cx qd_N_loadQueued_36 rfl rfl ?_
      refine gz_getR (pc := 37) cx qf_N_30 qd_N_loadQueued_37 (gm_N (by assumption)) rfl rfl (hst _ _ _ rfl) ?_
      refine gz_iload (pc := 40) cx qd_N_loadQueued_40 rfl ?_
      refine gz_aaload (pc := 42) cx qd_N_loadQueued_42 (by first | exact gm_tb (by assumption) | exact gm_ns | exact gm_cf | exact gm_w (by assumption) | exact gm_nw (by assumption) | exact gm_rs (by assumption) | exact gm_M (by assumption) | exact gm_R (by assumption) (by assumption) | exact gm_za (by decide) (by decide)) rfl ⟨by decide, by decide, rfl⟩ (hst _ _ _ rfl) (rfl : _ = nI b) (by assumption) (by omega) ?_
      refine gz_dup (pc := 43) cx qd_N_loadQueued_43 ?_
      refine gz_getI (pc := 44) cx qf_N_122 qd_N_loadQueued_44 (gm_E (by assumption) (by assumption)) rfl rfl ?_
      refine gz_iconst (v := 1) (pc := 47) cx qd_N_loadQueued_47 (by decide) ?_
      refine gz_isub (pc := 48) cx qd_N_loadQueued_48 ?_
      refine gz_putI (pc := 49) cx qp_N_122 qd_N_loadQueued_49 (gm_E (by assumption) (by assumption)) rfl rfl ⟨rfl, rfl⟩ (fun h => nomatch h) ?_
      refine gz_iload_n (pc := 52) cx qd_N_loadQueued_52 rfl rfl ?_
      refine gz_iconst (v := 1) (pc := 53) cx qd_N_loadQueued_53 (by decide) ?_
      refine gz_iload (pc := 54) cx qd_N_loadQueued_54 rfl ?_
      refine gz_ishl (pc := 56) cx qd_N_loadQueued_56 ?_
      refine gz_ior (pc := 57) cx qd_N_loadQueued_57 ?_
      refine gz_istore_n (pc := 58) cx qd_N_loadQueued_58 rfl (Nat.le_of_ble_eq_true rfl) ?_
      refine gz_iinc (pc := 59) cx qd_N_loadQueued_59 rfl (g_inc r) ?_
      refine gz_goto (tgt := 4) (pc := 62) cx qd_N_loadQueued_62 (by decide) ?_
      have e2 : (sCarry (sQ a i l 0 S) a (0 + l.length) i b).1 (9, i, b) 4 = (sQ a i l 0 S).1 (9, i, b) 4 := sCarry_off (by simp) (fun q => by cases q)
      rw [e2, ← sQ_app]
      refine gz_weak (lv' := [some (.inr (some (7, i, 0))), some (.inr (some (5, a, 0))), some (.inl (mk ||| (1 <<< (nI b &&& 31)))), some (.inl (nI (r + 1))), none]) ⟨rfl, rfl, rfl, rfl, trivial⟩ ?_
      refine ih (r + 1) (by omega) (l ++ [b]) _ (by simp [hl]) (fun m hm => ?_) (isMk_add hmk (by omega)) ?_
      · rcases List.mem_append.mp hm with h | h
        · exact hlt m h
        · rw [List.mem_singleton.mp h]; exact hbn
      · rw [he, mPick, hb]
        simp only [qm_s, List.append_assoc, List.singleton_append]
def sHdr (S : gS) (a : Nat) (kind s r no o g : Int32) : gS := gI (gI (gI (gI (gI (gI (gI S (5, a, 0) 0 kind) (5, a, 0) 1 s) (5, a, 0) 2 r) (5, a, 0) 6 0) (5, a, 0) 3 no) (5, a, 0) 4 o) (5, a, 0) 5 g
theorem cK.hdr {G : gG} {S : gS} {a : Nat} {kind s r no o g : Int32} (h : cK G S) : cK G (sHdr S a kind s r no o g) := ((((((h.I (by simp)).I (by simp)).I (by simp)).I (by simp)).I (by simp)).I (by simp)).I (by simp)
theorem sHdr_6 {S : gS} {a : Nat} {kind s r no o g : Int32} : (sHdr S a kind s r no o g).1 (5, a, 0) 6 = 0 := by simp [sHdr, gI1]
theorem gc_N_sendT {G : gG} {la : Launch} {S S1 : gS} {i a : Nat} {kind to no o g : Int32} (hi : i < G.1) (ha : a < 121) (hK : cK G S) (hK1 : cK G S1) (hN : gM G la qy_F_next qw_F_next 0 0 0 (gTt G) (gTt G) [.inr (some (3, 0, 0))] S (fun v S' => v = some (.inr (some (5, a, 0))) ∧ S' = S1)) (hk : kind = 6 ∨ kind = 7) : gM G la qy_N_send qw_N_send 2 0 0 (gTt G) (gTt G) [.inr (some (7, i, 0)), .inl kind, .inl to, .inl no, .inl o, .inl g] S (fun v S' => v = none ∧ S' = sLoad a i (mTab S1 i G.1) 0 (sHdr S1 a kind (nI i) to no o g)) := by
  refine gM_of (cc := qc_N_send) (maxL := 7) (by decide) rfl (Nat.le_of_ble_eq_true rfl) ?_
  intro E cx hr hnm hcz hsz hEl
  subst hEl
  have hst := hK.1
  have hid := (hK1.2.2.2.1 i hi).1
  refine gz_aload_n (pc := 0) cx qd_N_send_0 rfl rfl ?_
  refine gz_getR (pc := 1) cx qf_N_24 qd_N_send_1 (gm_N (by assumption)) rfl rfl (hst _ _ _ rfl) ?_
  refine gz_callV (pc := 4) cx qv_N_93 qd_N_send_4 (hN) (by decide) rfl gm_F rfl rfl rfl rfl (Nat.le_of_ble_eq_true rfl) ⟨Nat.zero_le _, Nat.zero_le _⟩ ?_
  rintro _ _ ⟨rfl, rfl⟩
  refine gz_astore (pc := 7) cx qd_N_send_7 (Nat.le_of_ble_eq_true rfl) ?_
  refine gz_aload (pc := 9) cx qd_N_send_9 rfl ?_
  refine gz_iload_n (pc := 11) cx qd_N_send_11 rfl rfl ?_
  refine gz_aload_n (pc := 12) cx qd_N_send_12 rfl rfl ?_
  refine gz_getI (pc := 13) cx qf_N_17 qd_N_send_13 (gm_N (by assumption)) rfl rfl ?_
  refine gz_iload_n (pc := 16) cx qd_N_send_16 rfl rfl ?_
  rw [hid]
  refine gz_callV (pc := 17) cx qv_N_99 qd_N_send_17 (gc_M_address ha) (by decide) rfl (gm_M (by assumption)) rfl rfl rfl rfl (Nat.le_of_ble_eq_true rfl) ⟨Nat.zero_le _, Nat.zero_le _⟩ ?_
  rintro _ _ ⟨rfl, rfl⟩
  refine gz_aload (pc := 20) cx qd_N_send_20 rfl ?_
  refine gz_iload_n (pc := 22) cx qd_N_send_22 rfl rfl ?_
  refine gz_iload (pc := 23) cx qd_N_send_23 rfl ?_
  refine gz_iload (pc := 25) cx qd_N_send_25 rfl ?_
  refine gz_callV (pc := 27) cx qv_N_104 qd_N_send_27 (gc_M_concern ha) (by decide) rfl (gm_M (by assumption)) rfl rfl rfl rfl (Nat.le_of_ble_eq_true rfl) ⟨Nat.zero_le _, Nat.zero_le _⟩ ?_
  rintro _ _ ⟨rfl, rfl⟩
  refine gz_iload_n (pc := 30) cx qd_N_send_30 rfl rfl ?_
  refine gz_bipush (v := 6) (pc := 31) cx qd_N_send_31 (by decide) ?_
  refine gz_icmp_eq (tgt := 42) (pc := 33) cx qd_N_send_33 (by decide) (fun h33 => ?_) (fun h33 => ?_)
  · refine gz_aload_n (pc := 42) cx qd_N_send_42 rfl rfl ?_
    refine gz_aload (pc := 43) cx qd_N_send_43 rfl ?_
    refine gz_callV (pc := 45) cx qv_N_107 qd_N_send_45 (gc_N_loadTable hi ha (S := sHdr _ a kind (nI i) to no o g) hK1.hdr sHdr_6) (by decide) rfl (gm_N (by assumption)) rfl rfl rfl rfl (Nat.le_of_ble_eq_true rfl) ⟨Nat.zero_le _, Nat.zero_le _⟩ ?_
    rintro _ _ ⟨rfl, rfl⟩
    refine gz_goto (tgt := 57) (pc := 48) cx qd_N_send_48 (by decide) ?_
    refine gz_return (pc := 57) cx hr qd_N_send_57 ?_
    exact ⟨rfl, rfl⟩
  · refine gz_iload_n (pc := 36) cx qd_N_send_36 rfl rfl ?_
    refine gz_bipush (v := 7) (pc := 37) cx qd_N_send_37 (by decide) ?_
    refine gz_icmp_ne (tgt := 51) (pc := 39) cx qd_N_send_39 (by decide) (fun h39 => absurd (hk.resolve_left h33) h39) (fun _ => ?_)
    refine gz_aload_n (pc := 42) cx qd_N_send_42 rfl rfl ?_
    refine gz_aload (pc := 43) cx qd_N_send_43 rfl ?_
    refine gz_callV (pc := 45) cx qv_N_107 qd_N_send_45 (gc_N_loadTable hi ha (S := sHdr _ a kind (nI i) to no o g) hK1.hdr sHdr_6) (by decide) rfl (gm_N (by assumption)) rfl rfl rfl rfl (Nat.le_of_ble_eq_true rfl) ⟨Nat.zero_le _, Nat.zero_le _⟩ ?_
    rintro _ _ ⟨rfl, rfl⟩
    refine gz_goto (tgt := 57) (pc := 48) cx qd_N_send_48 (by decide) ?_
    refine gz_return (pc := 57) cx hr qd_N_send_57 ?_
    exact ⟨rfl, rfl⟩
theorem gc_N_sendQ {G : gG} {la : Launch} {S S1 : gS} {i a : Nat} {kind to no o g : Int32} (hi : i < G.1) (ha : a < 121) (hK : cK G S) (hK1 : cK G S1) (hN : gM G la qy_F_next qw_F_next 0 0 0 (gTt G) (gTt G) [.inr (some (3, 0, 0))] S (fun v S' => v = some (.inr (some (5, a, 0))) ∧ S' = S1)) (hk : ¬ kind = 6 ∧ ¬ kind = 7) : gM G la qy_N_send qw_N_send 2 0 0 (gTt G) (gTt G) [.inr (some (7, i, 0)), .inl kind, .inl to, .inl no, .inl o, .inl g] S (fun v S' => v = none ∧ S' = sQ a i (mPick G.1 3 (qm S1 i [])) 0 (sHdr S1 a kind (nI i) to no o g)) := by
  refine gM_of (cc := qc_N_send) (maxL := 7) (by decide) rfl (Nat.le_of_ble_eq_true rfl) ?_
  intro E cx hr hnm hcz hsz hEl
  subst hEl
  have hst := hK.1
  have hid := (hK1.2.2.2.1 i hi).1
  refine gz_aload_n (pc := 0) cx qd_N_send_0 rfl rfl ?_
  refine gz_getR (pc := 1) cx qf_N_24 qd_N_send_1 (gm_N (by assumption)) rfl rfl (hst _ _ _ rfl) ?_
  refine gz_callV (pc := 4) cx qv_N_93 qd_N_send_4 (hN) (by decide) rfl gm_F rfl rfl rfl rfl (Nat.le_of_ble_eq_true rfl) ⟨Nat.zero_le _, Nat.zero_le _⟩ ?_
  rintro _ _ ⟨rfl, rfl⟩
  refine gz_astore (pc := 7) cx qd_N_send_7 (Nat.le_of_ble_eq_true rfl) ?_
  refine gz_aload (pc := 9) cx qd_N_send_9 rfl ?_
  refine gz_iload_n (pc := 11) cx qd_N_send_11 rfl rfl ?_
  refine gz_aload_n (pc := 12) cx qd_N_send_12 rfl rfl ?_
  refine gz_getI (pc := 13) cx qf_N_17 qd_N_send_13 (gm_N (by assumption)) rfl rfl ?_
  refine gz_iload_n (pc := 16) cx qd_N_send_16 rfl rfl ?_
  rw [hid]
  refine gz_callV (pc := 17) cx qv_N_99 qd_N_send_17 (gc_M_address ha) (by decide) rfl (gm_M (by assumption)) rfl rfl rfl rfl (Nat.le_of_ble_eq_true rfl) ⟨Nat.zero_le _, Nat.zero_le _⟩ ?_
  rintro _ _ ⟨rfl, rfl⟩
  refine gz_aload (pc := 20) cx qd_N_send_20 rfl ?_
  refine gz_iload_n (pc := 22) cx qd_N_send_22 rfl rfl ?_
  refine gz_iload (pc := 23) cx qd_N_send_23 rfl ?_
  refine gz_iload (pc := 25) cx qd_N_send_25 rfl ?_
  refine gz_callV (pc := 27) cx qv_N_104 qd_N_send_27 (gc_M_concern ha) (by decide) rfl (gm_M (by assumption)) rfl rfl rfl rfl (Nat.le_of_ble_eq_true rfl) ⟨Nat.zero_le _, Nat.zero_le _⟩ ?_
  rintro _ _ ⟨rfl, rfl⟩
  refine gz_iload_n (pc := 30) cx qd_N_send_30 rfl rfl ?_
  refine gz_bipush (v := 6) (pc := 31) cx qd_N_send_31 (by decide) ?_
  refine gz_icmp_eq (tgt := 42) (pc := 33) cx qd_N_send_33 (by decide) (fun h33 => absurd h33 hk.1) (fun _ => ?_)
  refine gz_iload_n (pc := 36) cx qd_N_send_36 rfl rfl ?_
  refine gz_bipush (v := 7) (pc := 37) cx qd_N_send_37 (by decide) ?_
  refine gz_icmp_ne (tgt := 51) (pc := 39) cx qd_N_send_39 (by decide) (fun _ => ?_) (fun h39 => absurd h39 hk.2)
  refine gz_aload_n (pc := 51) cx qd_N_send_51 rfl rfl ?_
  refine gz_aload (pc := 52) cx qd_N_send_52 rfl ?_
  refine gz_callV (pc := 54) cx qv_N_111 qd_N_send_54 (gc_N_loadQueued hi ha (S := sHdr _ a kind (nI i) to no o g) hK1.hdr sHdr_6) (by decide) rfl (gm_N (by assumption)) rfl rfl rfl rfl (Nat.le_of_ble_eq_true rfl) ⟨Nat.zero_le _, Nat.zero_le _⟩ ?_
  rintro _ _ ⟨rfl, rfl⟩
  refine gz_return (pc := 57) cx hr qd_N_send_57 ?_
  exact ⟨rfl, rfl⟩
