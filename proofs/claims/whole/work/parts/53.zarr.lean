theorem ix32m (k : Nat) : (32 : Int32) * nI k = nI (32 * k) := pk_mul 32 k
theorem gc_Z_remove {G : gG} {la : Launch} {S : gS} {k u : Nat} (hk : k ≤ u) (hu : u ≤ 59) (hz : S.1 (20, 0, 0) 2 = nI (u + 1)) (hst : gSt G S) : gM G la qy_Z_remove qw_Z_remove 0 0 0 (gTt G) (gTt G) [.inr (some (20, 0, 0)), .inl (nI k)] S (fun v S' => v = none ∧ S' = zSh (gI S (20, 0, 0) 2 (nI u)) (21, 0, 0) (32 * k) (32 * u) 32) := by
  refine gM_of (cc := qc_Z_remove) (maxL := 3) (by decide) rfl (Nat.le_of_ble_eq_true rfl) ?_
  intro E cx hr hnm hcz hsz hEl
  subst hEl
  suffices hh : ∀ t, t ≤ 32 * (u - k) → (fun t => gZ G E 0 0 (gEnd G E 0 0 (gTt G) (fun v S' => v = none ∧ S' = zSh (gI S (20, 0, 0) 2 (nI u)) (21, 0, 0) (32 * k) (32 * u) 32)) (gTt G) 15 [some (.inr (some (20, 0, 0))), some (.inl (nI k)), some (.inl (nI (32 * k + t)))] [] (zSh (gI S (20, 0, 0) 2 (nI u)) (21, 0, 0) (32 * k) (32 * k + t) 32)) t by
    refine gz_aload_n (pc := 0) cx qd_Z_remove_0 rfl rfl ?_
    refine gz_dup (pc := 1) cx qd_Z_remove_1 ?_
    refine gz_getV (pc := 2) cx qf_Z_109 qd_Z_remove_2 gm_Z rfl rfl hz ?_
    refine gz_iconst (v := 1) (pc := 5) cx qd_Z_remove_5 (by decide) ?_
    refine gz_isub (pc := 6) cx qd_Z_remove_6 ?_
    rw [nI_pred]
    refine gz_putI (pc := 7) cx qp_Z_109 qd_Z_remove_7 gm_Z rfl rfl ⟨rfl, rfl⟩ (fun h => nomatch h) ?_
    refine gz_bipush (v := 32) (pc := 10) cx qd_Z_remove_10 (by decide) ?_
    refine gz_iload_n (pc := 12) cx qd_Z_remove_12 rfl rfl ?_
    refine gz_imul (pc := 13) cx qd_Z_remove_13 ?_
    rw [ix32m]
    refine gz_istore_n (pc := 14) cx qd_Z_remove_14 rfl (Nat.le_of_ble_eq_true rfl) ?_
    have h0 := hh 0 (Nat.zero_le _)
    dsimp only at h0
    rw [Nat.add_zero, zSh_0] at h0
    exact h0
  have hst2 : ∀ x, gSt G (zSh (gI S (20, 0, 0) 2 (nI u)) (21, 0, 0) (32 * k) x 32) := fun x => hst
  have e2 : ∀ x, (zSh (gI S (20, 0, 0) 2 (nI u)) (21, 0, 0) (32 * k) x 32).1 (20, 0, 0) 2 = nI u := fun x => (zSh_o (by simp)).trans (by rw [gI1, if_pos ⟨rfl, rfl⟩])
  refine g_upto ?_ ?_
  · have ez : 32 * k + 32 * (u - k) = 32 * u := by omega
    rw [ez]
    refine gz_iload_n (pc := 15) cx qd_Z_remove_15 rfl rfl ?_
    refine gz_bipush (v := 32) (pc := 16) cx qd_Z_remove_16 (by decide) ?_
    refine gz_aload_n (pc := 18) cx qd_Z_remove_18 rfl rfl ?_
    refine gz_getV (pc := 19) cx qf_Z_109 qd_Z_remove_19 gm_Z rfl rfl (e2 _) ?_
    refine gz_imul (pc := 22) cx qd_Z_remove_22 ?_
    rw [ix32m]
    refine gz_icmp_ge (tgt := 47) (pc := 23) cx qd_Z_remove_23 (by decide) (fun _ => ?_) (fun h23 => absurd (Int32.le_refl _) h23)
    refine gz_return (pc := 47) cx hr qd_Z_remove_47 ?_
    exact ⟨rfl, rfl⟩
  · intro t ht ih
    refine gz_iload_n (pc := 15) cx qd_Z_remove_15 rfl rfl ?_
    refine gz_bipush (v := 32) (pc := 16) cx qd_Z_remove_16 (by decide) ?_
    refine gz_aload_n (pc := 18) cx qd_Z_remove_18 rfl rfl ?_
    refine gz_getV (pc := 19) cx qf_Z_109 qd_Z_remove_19 gm_Z rfl rfl (e2 _) ?_
    refine gz_imul (pc := 22) cx qd_Z_remove_22 ?_
    rw [ix32m]
    refine gz_icmp_ge (tgt := 47) (pc := 23) cx qd_Z_remove_23 (by decide) (fun h23 => absurd h23 (nI_ge (by omega) (by omega))) (fun _ => ?_)
    refine gz_aload_n (pc := 26) cx qd_Z_remove_26 rfl rfl ?_
    refine gz_getR (pc := 27) cx qf_Z_7 qd_Z_remove_27 gm_Z rfl rfl (hst2 _ _ _ _ rfl) ?_
    refine gz_iload_n (pc := 30) cx qd_Z_remove_30 rfl rfl ?_
    refine gz_aload_n (pc := 31) cx qd_Z_remove_31 rfl rfl ?_
    refine gz_getR (pc := 32) cx qf_Z_7 qd_Z_remove_32 gm_Z rfl rfl (hst2 _ _ _ _ rfl) ?_
    refine gz_iload_n (pc := 35) cx qd_Z_remove_35 rfl rfl ?_
    refine gz_bipush (v := 32) (pc := 36) cx qd_Z_remove_36 (by decide) ?_
    refine gz_iadd (pc := 38) cx qd_Z_remove_38 ?_
    refine gz_ialoadV (pc := 39) cx qd_Z_remove_39 (gm_za (by decide) (by decide)) rfl (zSh_r (by omega)) (nI_add _ 32) (by omega) (by decide) ?_
    refine gz_iastore (pc := 40) cx qd_Z_remove_40 (gm_za (by decide) (by decide)) rfl rfl (by omega) (by decide) ?_
    refine gz_iinc (pc := 41) cx qd_Z_remove_41 rfl (g_inc _) ?_
    refine gz_goto (tgt := 15) (pc := 44) cx qd_Z_remove_44 (by decide) ?_
    rw [zSh_s (by omega)]
    exact ih
theorem DR.rmF {G : gG} {M : mM} {ow : Nat → Bool} {S : gS} (h : DR G M ow S) {k u : Nat} (hl : M.2.2.length = u + 1) (hk : k ≤ u) : DR G (mFl M (M.2.2.eraseIdx k)) ow (zSh (gI S (20, 0, 0) 2 (nI u)) (21, 0, 0) (32 * k) (32 * u) 32) ∧ gFc S (zSh (gI S (20, 0, 0) 2 (nI u)) (21, 0, 0) (32 * k) (32 * u) 32) := by
  obtain ⟨d0, d1, d2, d3, d4, d5, d6, d7, d8, d9, d10, d11, d12, d13, d14, d15, d16, d17, d18, d19, d20, d21, d22, d23, d24, d25, d26⟩ := h
  have e : DFl (zSh (gI S (20, 0, 0) 2 (nI u)) (21, 0, 0) (32 * k) (32 * u) 32) (M.2.2.eraseIdx k) := by
    obtain ⟨c1, c2, c3⟩ := d4
    have e0 : ∀ y, (gI S (20, 0, 0) 2 (nI u)).1 (21, 0, 0) y = S.1 (21, 0, 0) y := fun y => by rw [gI1, if_neg (fun z => by simp at z)]
    have le : (M.2.2.eraseIdx k).length = u := by rw [List.length_eraseIdx, if_pos (by omega), hl]; rfl
    unfold DFl
    rw [le, zSh_o (by simp), gI1, if_pos ⟨rfl, rfl⟩]
    refine ⟨rfl, by omega, fun k' hk' => ?_⟩
    rw [getD_erase]
    by_cases z : k' < k
    · rw [if_pos z]
      obtain ⟨x1, x2⟩ := c3 k' (by omega)
      refine ⟨x1, fun j hj => ?_⟩
      rw [zSh_at, if_neg (by omega), e0]
      exact x2 j hj
    · rw [if_neg z]
      obtain ⟨x1, x2⟩ := c3 (k' + 1) (by omega)
      refine ⟨x1, fun j hj => ?_⟩
      rw [zSh_at, if_pos (by omega), e0, show 32 * k' + j + 32 = 32 * (k' + 1) + j by omega]
      exact x2 j hj
  exact ⟨⟨d0, d1, d2, d3, e, d5, d6, d7, d8, d9, d10, d11, d12, d13, d14, d15, d16, d17, d18, d19, d20, d21, d22, d23, d24, d25, d26⟩, (gFc.I (by simp)).tr (zSh_fc (by simp))⟩
def zTk (S : gS) (k : Nat) : gS := (fun K f => if K = (22, 0, 0) ∧ f < k then S.1 (21, 0, 0) f else S.1 K f, S.2)
theorem zTk_0 {S : gS} : zTk S 0 = S := Prod.ext (funext fun k => funext fun f => if_neg (by omega)) rfl
theorem zTk_o {S : gS} {k : Nat} {K : gK} {f : Nat} (h : K ≠ (22, 0, 0)) : (zTk S k).1 K f = S.1 K f := if_neg (fun q => h q.1)
theorem zTk_s {S : gS} {k : Nat} : gI (zTk S k) (22, 0, 0) k (S.1 (21, 0, 0) k) = zTk S (k + 1) := by
  refine Prod.ext (funext fun K => funext fun f => ?_) rfl
  rw [gI1]
  by_cases e : K = (22, 0, 0)
  · subst e
    unfold zTk
    simp only [true_and]
    by_cases e2 : f = k
    · subst e2
      rw [if_pos rfl, if_pos (by omega)]
    · rw [if_neg e2]
      by_cases e3 : f < k
      · rw [if_pos e3, if_pos (by omega)]
      · rw [if_neg e3, if_neg (by omega)]
  · rw [if_neg (fun z => e z.1), zTk_o e, zTk_o e]
theorem zTk_fc {S : gS} {k : Nat} : gFc S (zTk S k) := fun K hK => ⟨funext fun f => zTk_o (fun e => by rw [e] at hK; simp at hK), rfl⟩
theorem DR.tk {G : gG} {M : mM} {ow : Nat → Bool} {S : gS} (h : DR G M ow S) (k : Nat) : DR G M ow (zTk S k) := by
  obtain ⟨d0, d1, d2, d3, d4, d5, d6, d7, d8, d9, d10, d11, d12, d13, d14, d15, d16, d17, d18, d19, d20, d21, d22, d23, d24, d25, d26⟩ := h
  exact ⟨d0, d1, d2, d3, d4, d5, d6, d7, d8, d9, d10, d11, d12, d13, d14, d15, d16, d17, d18, d19, d20, d21, d22, d23, d24, d25, d26⟩
theorem ix3 (a t : Nat) : nI a + (3 : Int32) * nI t = nI (a + 3 * t) := (congrArg (fun z => nI a + z) (pk_mul 3 t)).trans (nI_add _ _)
theorem gc_Z_arrive {G : gG} {la : Launch} {M : mM} {D : Nat} {S : gS} (h : DR G M (fun _ => false) S) (hO : mInv G.1 D (fun _ => false) M) (hne : M.2.2 ≠ []) : gM G la qy_Z_arrive qw_Z_arrive 4 0 0 (gTt G) (gTt G) [.inr (some (20, 0, 0))] S (fun v S' => v = some (.inl (bI (mDel1 G.1 M).1)) ∧ DR G (mDel1 G.1 M).2 (fun _ => false) S' ∧ gFc S S') := by
  refine gM_of (cc := qc_Z_arrive) (maxL := 9) (by decide) rfl (Nat.le_of_ble_eq_true rfl) ?_
  intro E cx hr hnm hcz hsz hEl
  subst hEl
  have hD := h
  obtain ⟨d0, d1, d2, d3, d4, d5, d6, d7, d8, d9, d10, d11, d12, d13, d14, d15, d16, d17, d18, d19, d20, d21, d22, d23, d24, d25, d26⟩ := h
  have h8 := d1.1
  have hst := d0
  obtain ⟨c1, c2, c3⟩ := d4
  obtain ⟨msg, rest, ef⟩ : ∃ msg rest, M.2.2 = msg :: rest := by
    cases hM : M.2.2 with
    | nil => exact absurd hM hne
    | cons a b => exact ⟨a, b, rfl⟩
  have hm : mVm G.1 msg := hO.2.1.2 msg (by rw [ef]; exact List.mem_cons_self)
  obtain ⟨c, hc8, hlen, w6, ⟨b, hb, w1⟩, ⟨i, hi, w2⟩, w4, w5, w7⟩ := hm.1
  have cell : ∀ j, j < msg.length → S.1 (21, 0, 0) j = msg.getD j 0 := fun j hj => by
    have := (c3 0 (by rw [ef]; exact Nat.zero_lt_succ _)).2 j
    rw [ef] at this
    have t := this hj
    rw [Nat.mul_zero, Nat.zero_add] at t
    exact t
  have ez : M.2.2.length = rest.length + 1 := by rw [ef]; rfl
  have hrl : rest.length ≤ 59 := by omega
  have eM1 : mFl M (M.2.2.eraseIdx 0) = mFl M M.2.2.tail := by rw [ef]; rfl
  obtain ⟨D1, F1⟩ := (hD.tk 32).rmF (k := 0) ez (Nat.zero_le _)
  have F1' := (zTk_fc (S := S) (k := 32)).tr F1
  rw [eM1] at D1
  have hO1 : mInv G.1 D (fun _ => false) (mFl M M.2.2.tail) := hO.fl hO.2.1.tl
  have tk : ∀ j, j < msg.length → (zSh (gI (zTk S 32) (20, 0, 0) 2 (nI rest.length)) (21, 0, 0) (32 * 0) (32 * rest.length) 32).1 (22, 0, 0) j = msg.getD j 0 := fun j hj => by
    rw [zSh_o (by simp), gI1, if_neg (fun z => by simp at z)]
    show (if _ then _ else _) = _
    rw [if_pos ⟨rfl, by omega⟩]
    exact cell j hj
  have eDel : mDel1 G.1 M = if M.1 15 i 0 ≠ 0 ∧ mCutB M b i = false then (true, mRecv G.1 (mFl M M.2.2.tail) i msg (M.1 31 0 0)) else (false, mFl M M.2.2.tail) := by
    unfold mDel1
    have e : M.2.2.headD [] = msg := by rw [ef]; rfl
    simp only [e, w1, w2, nI_clamp (show i < 2 ^ 31 by omega), nI_clamp (show b < 2 ^ 31 by omega)]
  have eCut : mCutB M b i = false ↔ M.1 30 i b = 0 := by
    obtain ⟨⟨v, hv, ev⟩, es⟩ := hO.2.2.2.1 i b hi hb
    unfold mCutB
    rw [← es, ev]
    rw [decide_eq_false_iff_not]
    constructor
    · intro q
      have : v ≠ 1 := fun z => q (by rw [z]; rfl)
      rw [show v = 0 by omega]; rfl
    · intro q z
      rw [q] at z
      exact absurd z (by decide)
  have e15 := d6 i hi trivial
  have e30 := d5 i b hi hb trivial
  generalize hS2 : zSh (gI (zTk S 32) (20, 0, 0) 2 (nI rest.length)) (21, 0, 0) (32 * 0) (32 * rest.length) 32 = S2 at D1 F1' tk
  have tail : ∀ (M3 : mM) (S3 : gS) (x : Option gV) (kd : Int32), msg.getD 0 0 = kd → mRn M3 i → mInv G.1 D (fun _ => false) M3 → DR G M3 (fun _ => false) S3 → gFc S S3 → gZ G E 0 0 (gEnd G E 0 0 (gTt G) (fun v S' => v = some (.inl (bI true)) ∧ DR G (mTake G.1 M3 i msg) (fun _ => false) S' ∧ gFc S S')) (gTt G) 172 [some (.inr (some (20, 0, 0))), some (.inl kd), some (.inl (nI b)), some (.inl (nI i)), some (.inl (msg.getD 3 0)), some (.inl (msg.getD 4 0)), some (.inl (msg.getD 5 0)), some (.inl (nI c)), x] [] S3 := by
    intro M3 S3 x kd hkd hr3 hO3 hD3 hF3
    have hV := (hO3.2.2.2.2 i hi hr3).2.1
    have h24 := (hO3.2.2.2.2 i hi hr3).2.2.2.2.2.1
    have hst3 := hD3.1
    have hT : mTake G.1 M3 i msg = if kd = 1 then mSend G.1 M3 2 i (nI b) (msg.getD 3 0) (msg.getD 4 0) (msg.getD 5 0) else if kd = 2 then mAck G.1 M3 i (msg.getD 3 0) (msg.getD 4 0) (msg.getD 5 0) else if kd = 3 then mAsk G.1 M3 i (msg.getD 3 0) (msg.getD 4 0) (msg.getD 5 0) else if kd = 4 then (if M3.1 21 i 0 ≠ -1 ∧ msg.getD 3 0 = M3.1 20 i 0 then mSet M3 26 i 0 (M3.1 26 i 0 + 1) else M3) else if kd = 6 then mSend G.1 M3 7 i (nI b) 0 0 0 else M3 := by
      unfold mTake
      rw [hkd, w1]
    rw [hT]
    by_cases n1 : kd = 1
    · subst n1
      rw [if_pos rfl]
      refine gz_iload_n (pc := 172) cx qd_Z_arrive_172 rfl rfl ?_
      refine gz_iconst (v := 1) (pc := 173) cx qd_Z_arrive_173 (by decide) ?_
      refine gz_icmp_ne (tgt := 190) (pc := 174) cx qd_Z_arrive_174 (by decide) (fun h174 => absurd rfl h174) (fun _ => ?_)
      refine gz_aload_n (pc := 177) cx qd_Z_arrive_177 rfl rfl ?_
      refine gz_iconst (v := 2) (pc := 178) cx qd_Z_arrive_178 (by decide) ?_
      refine gz_iload_n (pc := 179) cx qd_Z_arrive_179 rfl rfl ?_
      refine gz_iload_n (pc := 180) cx qd_Z_arrive_180 rfl rfl ?_
      refine gz_iload (pc := 181) cx qd_Z_arrive_181 rfl ?_
      refine gz_iload (pc := 183) cx qd_Z_arrive_183 rfl ?_
      refine gz_iload (pc := 185) cx qd_Z_arrive_185 rfl ?_
      refine gz_callV (pc := 187) cx qv_Z_123 qd_Z_arrive_187 (gc_zsend hi hD3 hr3 (Or.inr (by decide)) (fun q => absurd q (by decide)) hV.pos hV.st0) (by decide) rfl gm_Z rfl rfl rfl rfl (Nat.le_of_ble_eq_true rfl) ⟨Nat.zero_le _, Nat.zero_le _⟩ ?_
      rintro _ S4 ⟨rfl, c4, f4⟩
      refine gz_iload_n (pc := 190) cx qd_Z_arrive_190 rfl rfl ?_
      refine gz_iconst (v := 2) (pc := 191) cx qd_Z_arrive_191 (by decide) ?_
      refine gz_icmp_ne (tgt := 206) (pc := 192) cx qd_Z_arrive_192 (by decide) (fun _ => ?_) (fun h192 => absurd h192 (by decide))
      refine gz_iload_n (pc := 206) cx qd_Z_arrive_206 rfl rfl ?_
      refine gz_iconst (v := 3) (pc := 207) cx qd_Z_arrive_207 (by decide) ?_
      refine gz_icmp_ne (tgt := 222) (pc := 208) cx qd_Z_arrive_208 (by decide) (fun _ => ?_) (fun h208 => absurd h208 (by decide))
      refine gz_iload_n (pc := 222) cx qd_Z_arrive_222 rfl rfl ?_
      refine gz_iconst (v := 4) (pc := 223) cx qd_Z_arrive_223 (by decide) ?_
      refine gz_icmp_ne (tgt := 261) (pc := 224) cx qd_Z_arrive_224 (by decide) (fun _ => ?_) (fun h224 => absurd h224 (by decide))
      refine gz_iload_n (pc := 261) cx qd_Z_arrive_261 rfl rfl ?_
      refine gz_bipush (v := 6) (pc := 262) cx qd_Z_arrive_262 (by decide) ?_
      refine gz_icmp_ne (tgt := 278) (pc := 264) cx qd_Z_arrive_264 (by decide) (fun _ => ?_) (fun h264 => absurd h264 (by decide))
      refine gz_iconst (v := 1) (pc := 278) cx qd_Z_arrive_278 (by decide) ?_
      refine gz_ireturn (pc := 279) cx hr (by decide) qd_Z_arrive_279 ?_
      exact ⟨rfl, c4, hF3.tr f4⟩
    by_cases n2 : kd = 2
    · subst n2
      rw [if_neg (by decide)]
      rw [if_pos rfl]
      refine gz_iload_n (pc := 172) cx qd_Z_arrive_172 rfl rfl ?_
      refine gz_iconst (v := 1) (pc := 173) cx qd_Z_arrive_173 (by decide) ?_
      refine gz_icmp_ne (tgt := 190) (pc := 174) cx qd_Z_arrive_174 (by decide) (fun _ => ?_) (fun h174 => absurd h174 (by decide))
      refine gz_iload_n (pc := 190) cx qd_Z_arrive_190 rfl rfl ?_
      refine gz_iconst (v := 2) (pc := 191) cx qd_Z_arrive_191 (by decide) ?_
      refine gz_icmp_ne (tgt := 206) (pc := 192) cx qd_Z_arrive_192 (by decide) (fun h192 => absurd rfl h192) (fun _ => ?_)
      refine gz_aload_n (pc := 195) cx qd_Z_arrive_195 rfl rfl ?_
      refine gz_iload_n (pc := 196) cx qd_Z_arrive_196 rfl rfl ?_
      refine gz_iload (pc := 197) cx qd_Z_arrive_197 rfl ?_
      refine gz_iload (pc := 199) cx qd_Z_arrive_199 rfl ?_
      refine gz_iload (pc := 201) cx qd_Z_arrive_201 rfl ?_
      refine gz_callV (pc := 203) cx qv_Z_144 qd_Z_arrive_203 (gc_Z_acknowledged hi hD3 hr3 hV h24) (by decide) rfl gm_Z rfl rfl rfl rfl (Nat.le_of_ble_eq_true rfl) ⟨Nat.zero_le _, Nat.zero_le _⟩ ?_
      rintro _ S4 ⟨rfl, c4, f4⟩
      refine gz_iload_n (pc := 206) cx qd_Z_arrive_206 rfl rfl ?_
      refine gz_iconst (v := 3) (pc := 207) cx qd_Z_arrive_207 (by decide) ?_
      refine gz_icmp_ne (tgt := 222) (pc := 208) cx qd_Z_arrive_208 (by decide) (fun _ => ?_) (fun h208 => absurd h208 (by decide))
      refine gz_iload_n (pc := 222) cx qd_Z_arrive_222 rfl rfl ?_
      refine gz_iconst (v := 4) (pc := 223) cx qd_Z_arrive_223 (by decide) ?_
      refine gz_icmp_ne (tgt := 261) (pc := 224) cx qd_Z_arrive_224 (by decide) (fun _ => ?_) (fun h224 => absurd h224 (by decide))
      refine gz_iload_n (pc := 261) cx qd_Z_arrive_261 rfl rfl ?_
      refine gz_bipush (v := 6) (pc := 262) cx qd_Z_arrive_262 (by decide) ?_
      refine gz_icmp_ne (tgt := 278) (pc := 264) cx qd_Z_arrive_264 (by decide) (fun _ => ?_) (fun h264 => absurd h264 (by decide))
      refine gz_iconst (v := 1) (pc := 278) cx qd_Z_arrive_278 (by decide) ?_
      refine gz_ireturn (pc := 279) cx hr (by decide) qd_Z_arrive_279 ?_
      exact ⟨rfl, c4, hF3.tr f4⟩
    by_cases n3 : kd = 3
    · subst n3
      rw [if_neg (by decide)]
      rw [if_neg (by decide)]
      rw [if_pos rfl]
      refine gz_iload_n (pc := 172) cx qd_Z_arrive_172 rfl rfl ?_
      refine gz_iconst (v := 1) (pc := 173) cx qd_Z_arrive_173 (by decide) ?_
      refine gz_icmp_ne (tgt := 190) (pc := 174) cx qd_Z_arrive_174 (by decide) (fun _ => ?_) (fun h174 => absurd h174 (by decide))
      refine gz_iload_n (pc := 190) cx qd_Z_arrive_190 rfl rfl ?_
      refine gz_iconst (v := 2) (pc := 191) cx qd_Z_arrive_191 (by decide) ?_
      refine gz_icmp_ne (tgt := 206) (pc := 192) cx qd_Z_arrive_192 (by decide) (fun _ => ?_) (fun h192 => absurd h192 (by decide))
      refine gz_iload_n (pc := 206) cx qd_Z_arrive_206 rfl rfl ?_
      refine gz_iconst (v := 3) (pc := 207) cx qd_Z_arrive_207 (by decide) ?_
      refine gz_icmp_ne (tgt := 222) (pc := 208) cx qd_Z_arrive_208 (by decide) (fun h208 => absurd rfl h208) (fun _ => ?_)
      refine gz_aload_n (pc := 211) cx qd_Z_arrive_211 rfl rfl ?_
      refine gz_iload_n (pc := 212) cx qd_Z_arrive_212 rfl rfl ?_
      refine gz_iload (pc := 213) cx qd_Z_arrive_213 rfl ?_
      refine gz_iload (pc := 215) cx qd_Z_arrive_215 rfl ?_
      refine gz_iload (pc := 217) cx qd_Z_arrive_217 rfl ?_
      refine gz_callV (pc := 219) cx qv_Z_147 qd_Z_arrive_219 (gc_Z_help hi hD3 hr3 hV) (by decide) rfl gm_Z rfl rfl rfl rfl (Nat.le_of_ble_eq_true rfl) ⟨Nat.zero_le _, Nat.zero_le _⟩ ?_
      rintro _ S4 ⟨rfl, c4, f4⟩
      refine gz_iload_n (pc := 222) cx qd_Z_arrive_222 rfl rfl ?_
      refine gz_iconst (v := 4) (pc := 223) cx qd_Z_arrive_223 (by decide) ?_
      refine gz_icmp_ne (tgt := 261) (pc := 224) cx qd_Z_arrive_224 (by decide) (fun _ => ?_) (fun h224 => absurd h224 (by decide))
      refine gz_iload_n (pc := 261) cx qd_Z_arrive_261 rfl rfl ?_
      refine gz_bipush (v := 6) (pc := 262) cx qd_Z_arrive_262 (by decide) ?_
      refine gz_icmp_ne (tgt := 278) (pc := 264) cx qd_Z_arrive_264 (by decide) (fun _ => ?_) (fun h264 => absurd h264 (by decide))
      refine gz_iconst (v := 1) (pc := 278) cx qd_Z_arrive_278 (by decide) ?_
      refine gz_ireturn (pc := 279) cx hr (by decide) qd_Z_arrive_279 ?_
      exact ⟨rfl, c4, hF3.tr f4⟩
    by_cases n4 : kd = 4
    · subst n4
      rw [if_neg (by decide)]
      rw [if_neg (by decide)]
      rw [if_neg (by decide)]
      rw [if_pos rfl]
      have eP := hD3.2.2.2.2.2.2.2.2.2.2.2.2.2.1 i hi hr3
      have eN := hD3.2.2.2.2.2.2.2.2.2.1 i hi hr3
      have eK := hD3.2.2.2.2.2.2.2.2.2.2.2.2.2.2.2.2.2.2.1 i hi
      refine gz_iload_n (pc := 172) cx qd_Z_arrive_172 rfl rfl ?_
      refine gz_iconst (v := 1) (pc := 173) cx qd_Z_arrive_173 (by decide) ?_
      refine gz_icmp_ne (tgt := 190) (pc := 174) cx qd_Z_arrive_174 (by decide) (fun _ => ?_) (fun h174 => absurd h174 (by decide))
      refine gz_iload_n (pc := 190) cx qd_Z_arrive_190 rfl rfl ?_
      refine gz_iconst (v := 2) (pc := 191) cx qd_Z_arrive_191 (by decide) ?_
      refine gz_icmp_ne (tgt := 206) (pc := 192) cx qd_Z_arrive_192 (by decide) (fun _ => ?_) (fun h192 => absurd h192 (by decide))
      refine gz_iload_n (pc := 206) cx qd_Z_arrive_206 rfl rfl ?_
      refine gz_iconst (v := 3) (pc := 207) cx qd_Z_arrive_207 (by decide) ?_
      refine gz_icmp_ne (tgt := 222) (pc := 208) cx qd_Z_arrive_208 (by decide) (fun _ => ?_) (fun h208 => absurd h208 (by decide))
      refine gz_iload_n (pc := 222) cx qd_Z_arrive_222 rfl rfl ?_
      refine gz_iconst (v := 4) (pc := 223) cx qd_Z_arrive_223 (by decide) ?_
      refine gz_icmp_ne (tgt := 261) (pc := 224) cx qd_Z_arrive_224 (by decide) (fun h224 => absurd rfl h224) (fun _ => ?_)
      refine gz_aload_n (pc := 227) cx qd_Z_arrive_227 rfl rfl ?_
      refine gz_getR (pc := 228) cx qf_Z_77 qd_Z_arrive_228 gm_Z rfl rfl (hst3 _ _ _ rfl) ?_
      refine gz_iload_n (pc := 231) cx qd_Z_arrive_231 rfl rfl ?_
      refine gz_dup2 (pc := 232) cx qd_Z_arrive_232 ?_
      refine gz_iaload (pc := 233) cx qd_Z_arrive_233 (gm_za (by decide) (by decide)) rfl rfl (by omega) (by decide) ?_
      refine gz_aload_n (pc := 234) cx qd_Z_arrive_234 rfl rfl ?_
      refine gz_getR (pc := 235) cx qf_Z_56 qd_Z_arrive_235 gm_Z rfl rfl (hst3 _ _ _ rfl) ?_
      refine gz_iload_n (pc := 238) cx qd_Z_arrive_238 rfl rfl ?_
      refine gz_zaloadV (pc := 239) cx qd_Z_arrive_239 (gm_za (by decide) (by decide)) rfl eP rfl (by omega) (by decide) ?_
      refine gz_if_eq (tgt := 258) (pc := 240) cx qd_Z_arrive_240 (by decide) (fun h240 => ?_) (fun h240 => ?_)
      · refine gz_iconst (v := 0) (pc := 258) cx qd_Z_arrive_258 (by decide) ?_
        refine gz_iadd (pc := 259) cx qd_Z_arrive_259 ?_
        refine gz_iastore (pc := 260) cx qd_Z_arrive_260 (gm_za (by decide) (by decide)) rfl rfl (by omega) (by decide) ?_
        refine gz_iload_n (pc := 261) cx qd_Z_arrive_261 rfl rfl ?_
        refine gz_bipush (v := 6) (pc := 262) cx qd_Z_arrive_262 (by decide) ?_
        refine gz_icmp_ne (tgt := 278) (pc := 264) cx qd_Z_arrive_264 (by decide) (fun _ => ?_) (fun h264 => absurd h264 (by decide))
        refine gz_iconst (v := 1) (pc := 278) cx qd_Z_arrive_278 (by decide) ?_
        refine gz_ireturn (pc := 279) cx hr (by decide) qd_Z_arrive_279 ?_
        have hp : ¬ mPb M3 i := fun q => bI_f h240 q.2
        obtain ⟨c4, f4⟩ := hD3.n26 hp (S3.1 (43, 0, 0) i + 0)
        rw [if_neg (fun q => hp ⟨hr3, q.1⟩)]
        exact ⟨rfl, c4, hF3.tr f4⟩
      · refine gz_aload_n (pc := 243) cx qd_Z_arrive_243 rfl rfl ?_
        refine gz_getR (pc := 244) cx qf_Z_68 qd_Z_arrive_244 gm_Z rfl rfl (hst3 _ _ _ rfl) ?_
        refine gz_iload_n (pc := 247) cx qd_Z_arrive_247 rfl rfl ?_
        refine gz_ialoadV (pc := 248) cx qd_Z_arrive_248 (gm_za (by decide) (by decide)) rfl eN rfl (by omega) (by decide) ?_
        refine gz_iload (pc := 249) cx qd_Z_arrive_249 rfl ?_
        refine gz_icmp_ne (tgt := 258) (pc := 251) cx qd_Z_arrive_251 (by decide) (fun h251 => ?_) (fun h251 => ?_)
        · refine gz_iconst (v := 0) (pc := 258) cx qd_Z_arrive_258 (by decide) ?_
          refine gz_iadd (pc := 259) cx qd_Z_arrive_259 ?_
          refine gz_iastore (pc := 260) cx qd_Z_arrive_260 (gm_za (by decide) (by decide)) rfl rfl (by omega) (by decide) ?_
          refine gz_iload_n (pc := 261) cx qd_Z_arrive_261 rfl rfl ?_
          refine gz_bipush (v := 6) (pc := 262) cx qd_Z_arrive_262 (by decide) ?_
          refine gz_icmp_ne (tgt := 278) (pc := 264) cx qd_Z_arrive_264 (by decide) (fun _ => ?_) (fun h264 => absurd h264 (by decide))
          refine gz_iconst (v := 1) (pc := 278) cx qd_Z_arrive_278 (by decide) ?_
          refine gz_ireturn (pc := 279) cx hr (by decide) qd_Z_arrive_279 ?_
          have hp : mPb M3 i := ⟨hr3, bI_t h240⟩
          obtain ⟨c4, f4⟩ := hD3.f26 (i := i) (S3.1 (43, 0, 0) i + 0)
          rw [if_neg (fun q => h251 q.2.symm)]
          rw [mSet_same (show M3.1 26 i 0 = _ by rw [eK hp, Int32.add_zero])] at c4
          exact ⟨rfl, c4, hF3.tr f4⟩
        · refine gz_iconst (v := 1) (pc := 254) cx qd_Z_arrive_254 (by decide) ?_
          refine gz_goto (tgt := 259) (pc := 255) cx qd_Z_arrive_255 (by decide) ?_
          refine gz_iadd (pc := 259) cx qd_Z_arrive_259 ?_
          refine gz_iastore (pc := 260) cx qd_Z_arrive_260 (gm_za (by decide) (by decide)) rfl rfl (by omega) (by decide) ?_
          refine gz_iload_n (pc := 261) cx qd_Z_arrive_261 rfl rfl ?_
          refine gz_bipush (v := 6) (pc := 262) cx qd_Z_arrive_262 (by decide) ?_
          refine gz_icmp_ne (tgt := 278) (pc := 264) cx qd_Z_arrive_264 (by decide) (fun _ => ?_) (fun h264 => absurd h264 (by decide))
          refine gz_iconst (v := 1) (pc := 278) cx qd_Z_arrive_278 (by decide) ?_
          refine gz_ireturn (pc := 279) cx hr (by decide) qd_Z_arrive_279 ?_
          have hp : mPb M3 i := ⟨hr3, bI_t h240⟩
          obtain ⟨c4, f4⟩ := hD3.f26 (i := i) (S3.1 (43, 0, 0) i + 1)
          rw [if_pos ⟨hp.2, h251.symm⟩]
          have ek := eK hp
          rw [ek] at c4 f4 ⊢
          exact ⟨rfl, c4, hF3.tr f4⟩
    by_cases n6 : kd = 6
    · subst n6
      rw [if_neg (by decide)]
      rw [if_neg (by decide)]
      rw [if_neg (by decide)]
      rw [if_neg (by decide)]
      rw [if_pos rfl]
      refine gz_iload_n (pc := 172) cx qd_Z_arrive_172 rfl rfl ?_
      refine gz_iconst (v := 1) (pc := 173) cx qd_Z_arrive_173 (by decide) ?_
      refine gz_icmp_ne (tgt := 190) (pc := 174) cx qd_Z_arrive_174 (by decide) (fun _ => ?_) (fun h174 => absurd h174 (by decide))
      refine gz_iload_n (pc := 190) cx qd_Z_arrive_190 rfl rfl ?_
      refine gz_iconst (v := 2) (pc := 191) cx qd_Z_arrive_191 (by decide) ?_
      refine gz_icmp_ne (tgt := 206) (pc := 192) cx qd_Z_arrive_192 (by decide) (fun _ => ?_) (fun h192 => absurd h192 (by decide))
      refine gz_iload_n (pc := 206) cx qd_Z_arrive_206 rfl rfl ?_
      refine gz_iconst (v := 3) (pc := 207) cx qd_Z_arrive_207 (by decide) ?_
      refine gz_icmp_ne (tgt := 222) (pc := 208) cx qd_Z_arrive_208 (by decide) (fun _ => ?_) (fun h208 => absurd h208 (by decide))
      refine gz_iload_n (pc := 222) cx qd_Z_arrive_222 rfl rfl ?_
      refine gz_iconst (v := 4) (pc := 223) cx qd_Z_arrive_223 (by decide) ?_
      refine gz_icmp_ne (tgt := 261) (pc := 224) cx qd_Z_arrive_224 (by decide) (fun _ => ?_) (fun h224 => absurd h224 (by decide))
      refine gz_iload_n (pc := 261) cx qd_Z_arrive_261 rfl rfl ?_
      refine gz_bipush (v := 6) (pc := 262) cx qd_Z_arrive_262 (by decide) ?_
      refine gz_icmp_ne (tgt := 278) (pc := 264) cx qd_Z_arrive_264 (by decide) (fun h264 => absurd rfl h264) (fun _ => ?_)
      refine gz_aload_n (pc := 267) cx qd_Z_arrive_267 rfl rfl ?_
      refine gz_bipush (v := 7) (pc := 268) cx qd_Z_arrive_268 (by decide) ?_
      refine gz_iload_n (pc := 270) cx qd_Z_arrive_270 rfl rfl ?_
      refine gz_iload_n (pc := 271) cx qd_Z_arrive_271 rfl rfl ?_
      refine gz_iconst (v := 0) (pc := 272) cx qd_Z_arrive_272 (by decide) ?_
      refine gz_iconst (v := 0) (pc := 273) cx qd_Z_arrive_273 (by decide) ?_
      refine gz_iconst (v := 0) (pc := 274) cx qd_Z_arrive_274 (by decide) ?_
      refine gz_callV (pc := 275) cx qv_Z_123 qd_Z_arrive_275 (gc_zsend hi hD3 hr3 (Or.inl (Or.inr rfl)) (fun _ => rfl) hV.pos hV.st0) (by decide) rfl gm_Z rfl rfl rfl rfl (Nat.le_of_ble_eq_true rfl) ⟨Nat.zero_le _, Nat.zero_le _⟩ ?_
      rintro _ S4 ⟨rfl, c4, f4⟩
      refine gz_iconst (v := 1) (pc := 278) cx qd_Z_arrive_278 (by decide) ?_
      refine gz_ireturn (pc := 279) cx hr (by decide) qd_Z_arrive_279 ?_
      exact ⟨rfl, c4, hF3.tr f4⟩
    rw [if_neg n1, if_neg n2, if_neg n3, if_neg n4, if_neg n6]
    refine gz_iload_n (pc := 172) cx qd_Z_arrive_172 rfl rfl ?_
    refine gz_iconst (v := 1) (pc := 173) cx qd_Z_arrive_173 (by decide) ?_
    refine gz_icmp_ne (tgt := 190) (pc := 174) cx qd_Z_arrive_174 (by decide) (fun _ => ?_) (fun h174 => absurd h174 n1)
    refine gz_iload_n (pc := 190) cx qd_Z_arrive_190 rfl rfl ?_
    refine gz_iconst (v := 2) (pc := 191) cx qd_Z_arrive_191 (by decide) ?_
    refine gz_icmp_ne (tgt := 206) (pc := 192) cx qd_Z_arrive_192 (by decide) (fun _ => ?_) (fun h192 => absurd h192 n2)
    refine gz_iload_n (pc := 206) cx qd_Z_arrive_206 rfl rfl ?_
    refine gz_iconst (v := 3) (pc := 207) cx qd_Z_arrive_207 (by decide) ?_
    refine gz_icmp_ne (tgt := 222) (pc := 208) cx qd_Z_arrive_208 (by decide) (fun _ => ?_) (fun h208 => absurd h208 n3)
    refine gz_iload_n (pc := 222) cx qd_Z_arrive_222 rfl rfl ?_
    refine gz_iconst (v := 4) (pc := 223) cx qd_Z_arrive_223 (by decide) ?_
    refine gz_icmp_ne (tgt := 261) (pc := 224) cx qd_Z_arrive_224 (by decide) (fun _ => ?_) (fun h224 => absurd h224 n4)
    refine gz_iload_n (pc := 261) cx qd_Z_arrive_261 rfl rfl ?_
    refine gz_bipush (v := 6) (pc := 262) cx qd_Z_arrive_262 (by decide) ?_
    refine gz_icmp_ne (tgt := 278) (pc := 264) cx qd_Z_arrive_264 (by decide) (fun _ => ?_) (fun h264 => absurd h264 n6)
    refine gz_iconst (v := 1) (pc := 278) cx qd_Z_arrive_278 (by decide) ?_
    refine gz_ireturn (pc := 279) cx hr (by decide) qd_Z_arrive_279 ?_
    exact ⟨rfl, hD3, hF3⟩
  have loop : mRn M i → ∀ t, t ≤ c → ∀ S3 : gS, DR G (mLearns (mFl M M.2.2.tail) i msg (M.1 31 0 0) t) (fun _ => false) S3 → S3.1 (22, 0, 0) = S2.1 (22, 0, 0) → gFc S S3 → gZ G E 0 0 (gEnd G E 0 0 (gTt G) (fun v S' => v = some (.inl (bI true)) ∧ DR G (mRecv G.1 (mFl M M.2.2.tail) i msg (M.1 31 0 0)) (fun _ => false) S' ∧ gFc S S')) (gTt G) 117 [some (.inr (some (20, 0, 0))), some (.inl (msg.getD 0 0)), some (.inl (nI b)), some (.inl (nI i)), some (.inl (msg.getD 3 0)), some (.inl (msg.getD 4 0)), some (.inl (msg.getD 5 0)), some (.inl (nI c)), some (.inl (nI t))] [] S3 := by
    intro hr
    refine g_upto ?_ ?_
    · intro S3 hD3 h22 hF3
      have hr3 : mRn (mLearns (mFl M M.2.2.tail) i msg (M.1 31 0 0) c) i := (mAt_rn (mLearns_at c)).mpr hr
      have hO3 := (hO1.learns (i := i) (w := M.1 31 0 0) rfl hm c (by omega)).1
      have hR : mRecv G.1 (mFl M M.2.2.tail) i msg (M.1 31 0 0) = mTake G.1 (mLearns (mFl M M.2.2.tail) i msg (M.1 31 0 0) c) i msg := by
        unfold mRecv
        rw [w6, nI_clamp (by omega)]
      rw [hR]
      refine gz_iload (pc := 117) cx qd_Z_arrive_117 rfl ?_
      refine gz_iload (pc := 119) cx qd_Z_arrive_119 rfl ?_
      refine gz_icmp_ge (tgt := 172) (pc := 121) cx qd_Z_arrive_121 (by decide) (fun _ => ?_) (fun h121 => absurd (Int32.le_refl _) h121)
      exact tail _ S3 _ _ rfl hr3 hO3 hD3 hF3
    · intro t ht ih S3 hD3 h22 hF3
      have hst3 := hD3.1
      have hr3 : mRn (mLearns (mFl M M.2.2.tail) i msg (M.1 31 0 0) t) i := (mAt_rn (mLearns_at t)).mpr hr
      have hO3 := (hO1.learns (i := i) (w := M.1 31 0 0) rfl hm t (by omega)).1
      obtain ⟨v1, v2, v3, v4, v5⟩ := hO3.2.2.2.2 i hi hr3
      obtain ⟨m, hm1, em⟩ := w7 t ht
      have ew : (mLearns (mFl M M.2.2.tail) i msg (M.1 31 0 0) t).1 31 0 0 = M.1 31 0 0 := (mLearns_at t).1 31 0 0 (by omega)
      have ct : ∀ j, j < msg.length → S3.1 (22, 0, 0) j = msg.getD j 0 := fun j hj => by rw [h22]; exact tk j hj
      refine gz_iload (pc := 117) cx qd_Z_arrive_117 rfl ?_
      refine gz_iload (pc := 119) cx qd_Z_arrive_119 rfl ?_
      refine gz_icmp_ge (tgt := 172) (pc := 121) cx qd_Z_arrive_121 (by decide) (fun h121 => absurd h121 (nI_ge ht (by omega))) (fun _ => ?_)
      refine gz_aload_n (pc := 124) cx qd_Z_arrive_124 rfl rfl ?_
      refine gz_iload_n (pc := 125) cx qd_Z_arrive_125 rfl rfl ?_
      refine gz_aload_n (pc := 126) cx qd_Z_arrive_126 rfl rfl ?_
      refine gz_getR (pc := 127) cx qf_Z_13 qd_Z_arrive_127 gm_Z rfl rfl (hst3 _ _ _ rfl) ?_
      refine gz_bipush (v := 7) (pc := 130) cx qd_Z_arrive_130 (by decide) ?_
      refine gz_iconst (v := 3) (pc := 132) cx qd_Z_arrive_132 (by decide) ?_
      refine gz_iload (pc := 133) cx qd_Z_arrive_133 rfl ?_
      refine gz_imul (pc := 135) cx qd_Z_arrive_135 ?_
      refine gz_iadd (pc := 136) cx qd_Z_arrive_136 ?_
      refine gz_ialoadV (pc := 137) cx qd_Z_arrive_137 (gm_za (by decide) (by decide)) rfl ((ct (7 + 3 * t) (by omega)).trans em) (ix3 7 t) (by omega) (by decide) ?_
      refine gz_aload_n (pc := 138) cx qd_Z_arrive_138 rfl rfl ?_
      refine gz_getR (pc := 139) cx qf_Z_13 qd_Z_arrive_139 gm_Z rfl rfl (hst3 _ _ _ rfl) ?_
      refine gz_bipush (v := 8) (pc := 142) cx qd_Z_arrive_142 (by decide) ?_
      refine gz_iconst (v := 3) (pc := 144) cx qd_Z_arrive_144 (by decide) ?_
      refine gz_iload (pc := 145) cx qd_Z_arrive_145 rfl ?_
      refine gz_imul (pc := 147) cx qd_Z_arrive_147 ?_
      refine gz_iadd (pc := 148) cx qd_Z_arrive_148 ?_
      refine gz_ialoadV (pc := 149) cx qd_Z_arrive_149 (gm_za (by decide) (by decide)) rfl ((ct (8 + 3 * t) (by omega)).trans (show msg.getD (8 + 3 * t) 0 = msg.getD (7 + (3 * t + 1)) 0 by congr 1; omega)) (ix3 8 t) (by omega) (by decide) ?_
      refine gz_aload_n (pc := 150) cx qd_Z_arrive_150 rfl rfl ?_
      refine gz_getR (pc := 151) cx qf_Z_13 qd_Z_arrive_151 gm_Z rfl rfl (hst3 _ _ _ rfl) ?_
      refine gz_bipush (v := 9) (pc := 154) cx qd_Z_arrive_154 (by decide) ?_
      refine gz_iconst (v := 3) (pc := 156) cx qd_Z_arrive_156 (by decide) ?_
      refine gz_iload (pc := 157) cx qd_Z_arrive_157 rfl ?_
      refine gz_imul (pc := 159) cx qd_Z_arrive_159 ?_
      try rw [ix9]
      refine gz_iadd (pc := 160) cx qd_Z_arrive_160 ?_
      refine gz_ialoadV (pc := 161) cx qd_Z_arrive_161 (gm_za (by decide) (by decide)) rfl ((ct (9 + 3 * t) (by omega)).trans (show msg.getD (9 + 3 * t) 0 = msg.getD (7 + (3 * t + 2)) 0 by congr 1; omega)) (ix3 9 t) (by omega) (by decide) ?_
      refine gz_iload_n (pc := 162) cx qd_Z_arrive_162 rfl rfl ?_
      refine gz_callV (pc := 163) cx qv_Z_141 qd_Z_arrive_163 (gc_Z_learn hi hD3 hr3 hm1 rfl (v3 rfl).1 (v3 rfl).2 v5.1) (by decide) rfl gm_Z rfl rfl rfl rfl (Nat.le_of_ble_eq_true rfl) ⟨Nat.zero_le _, Nat.zero_le _⟩ ?_
      rintro _ S4 ⟨rfl, c4, f4, g4⟩
      rw [ew] at c4
      have c5 : DR G (mLearns (mFl M M.2.2.tail) i msg (M.1 31 0 0) (t + 1)) (fun _ => false) S4 := by
        rw [mLearns, em, nI_clamp (by omega), w1]
        exact c4
      refine gz_iinc (pc := 166) cx qd_Z_arrive_166 rfl (g_inc t) ?_
      refine gz_goto (tgt := 117) (pc := 169) cx qd_Z_arrive_169 (by decide) ?_
      exact ih S4 c5 (g4.trans h22) (hF3.tr f4)
  have copy : ∀ k, k ≤ 32 → (fun k => gZ G E 0 0 (gEnd G E 0 0 (gTt G) (fun v S' => v = some (.inl (bI (mDel1 G.1 M).1)) ∧ DR G (mDel1 G.1 M).2 (fun _ => false) S' ∧ gFc S S')) (gTt G) 57 [some (.inr (some (20, 0, 0))), some (.inl (msg.getD 0 0)), some (.inl (nI b)), some (.inl (nI i)), some (.inl (msg.getD 3 0)), some (.inl (msg.getD 4 0)), some (.inl (msg.getD 5 0)), some (.inl (nI c)), some (.inl (nI k))] [] (zTk S k)) k := by
    refine g_upto ?_ ?_
    · refine gz_iload (pc := 57) cx qd_Z_arrive_57 rfl ?_
      refine gz_bipush (v := 32) (pc := 59) cx qd_Z_arrive_59 (by decide) ?_
      refine gz_icmp_ge (tgt := 84) (pc := 61) cx qd_Z_arrive_61 (by decide) (fun _ => ?_) (fun h61 => absurd (Int32.le_refl _) h61)
      refine gz_aload_n (pc := 84) cx qd_Z_arrive_84 rfl rfl ?_
      refine gz_iconst (v := 0) (pc := 85) cx qd_Z_arrive_85 (by decide) ?_
      refine gz_callV (pc := 86) cx qv_Z_130 qd_Z_arrive_86 (gc_Z_remove (k := 0) (u := rest.length) (Nat.zero_le _) hrl ((zTk_o (by simp)).trans (c1.trans (by rw [ez]))) hst) (by decide) rfl gm_Z rfl rfl rfl rfl (Nat.le_of_ble_eq_true rfl) ⟨Nat.zero_le _, Nat.zero_le _⟩ ?_
      rintro _ _ ⟨rfl, rfl⟩
      rw [hS2]
      have hst2 := D1.1
      have f15 := D1.2.2.2.2.2.2.1 i hi trivial
      have f30 := D1.2.2.2.2.2.1 i b hi hb trivial
      refine gz_aload_n (pc := 89) cx qd_Z_arrive_89 rfl rfl ?_
      refine gz_getR (pc := 90) cx qf_Z_20 qd_Z_arrive_90 gm_Z rfl rfl (hst2 _ _ _ rfl) ?_
      refine gz_iload_n (pc := 93) cx qd_Z_arrive_93 rfl rfl ?_
      refine gz_zaloadV (pc := 94) cx qd_Z_arrive_94 (gm_za (by decide) (by decide)) rfl (show _ = M.1 15 i 0 from f15) rfl (by omega) (by decide) ?_
      refine gz_if_eq (tgt := 112) (pc := 95) cx qd_Z_arrive_95 (by decide) (fun h95 => ?_) (fun h95 => ?_)
      · refine gz_iconst (v := 0) (pc := 112) cx qd_Z_arrive_112 (by decide) ?_
        refine gz_ireturn (pc := 113) cx hr (by decide) qd_Z_arrive_113 ?_
        rw [eDel, if_neg (fun q => q.1 h95)]
        exact ⟨rfl, D1, F1'⟩
      · refine gz_aload_n (pc := 98) cx qd_Z_arrive_98 rfl rfl ?_
        refine gz_getR (pc := 99) cx qf_Z_16 qd_Z_arrive_99 gm_Z rfl rfl (hst2 _ _ _ rfl) ?_
        refine gz_bipush (v := 8) (pc := 102) cx qd_Z_arrive_102 (by decide) ?_
        refine gz_iload_n (pc := 104) cx qd_Z_arrive_104 rfl rfl ?_
        refine gz_imul (pc := 105) cx qd_Z_arrive_105 ?_
        refine gz_iload_n (pc := 106) cx qd_Z_arrive_106 rfl rfl ?_
        refine gz_iadd (pc := 107) cx qd_Z_arrive_107 ?_
        try rw [ix8]
        refine gz_zaloadV (pc := 108) cx qd_Z_arrive_108 (gm_za (by decide) (by decide)) rfl (show _ = M.1 30 i b from f30) rfl (by omega) (by decide) ?_
        refine gz_if_eq (tgt := 114) (pc := 109) cx qd_Z_arrive_109 (by decide) (fun h109 => ?_) (fun h109 => ?_)
        · refine gz_iconst (v := 0) (pc := 114) cx qd_Z_arrive_114 (by decide) ?_
          refine gz_istore (pc := 115) cx qd_Z_arrive_115 (Nat.le_of_ble_eq_true rfl) ?_
          rw [eDel, if_pos ⟨h95, eCut.mpr h109⟩]
          exact loop h95 0 (Nat.zero_le _) S2 D1 rfl F1'
        · refine gz_iconst (v := 0) (pc := 112) cx qd_Z_arrive_112 (by decide) ?_
          refine gz_ireturn (pc := 113) cx hr (by decide) qd_Z_arrive_113 ?_
          rw [eDel, if_neg (fun q => h109 (eCut.mp q.2))]
          exact ⟨rfl, D1, F1'⟩
    · intro k hk ih
      refine gz_iload (pc := 57) cx qd_Z_arrive_57 rfl ?_
      refine gz_bipush (v := 32) (pc := 59) cx qd_Z_arrive_59 (by decide) ?_
      refine gz_icmp_ge (tgt := 84) (pc := 61) cx qd_Z_arrive_61 (by decide) (fun h61 => absurd h61 (nI_ge (b := 32) hk (by decide))) (fun _ => ?_)
      refine gz_aload_n (pc := 64) cx qd_Z_arrive_64 rfl rfl ?_
      refine gz_getR (pc := 65) cx qf_Z_13 qd_Z_arrive_65 gm_Z rfl rfl (show (zTk S k).2 (20, 0, 0) _ = _ from hst _ _ _ rfl) ?_
      refine gz_iload (pc := 68) cx qd_Z_arrive_68 rfl ?_
      refine gz_aload_n (pc := 70) cx qd_Z_arrive_70 rfl rfl ?_
      refine gz_getR (pc := 71) cx qf_Z_7 qd_Z_arrive_71 gm_Z rfl rfl (show (zTk S k).2 (20, 0, 0) _ = _ from hst _ _ _ rfl) ?_
      refine gz_iload (pc := 74) cx qd_Z_arrive_74 rfl ?_
      refine gz_ialoadV (pc := 76) cx qd_Z_arrive_76 (gm_za (by decide) (by decide)) rfl (zTk_o (by simp)) rfl (by omega) (by decide) ?_
      refine gz_iastore (pc := 77) cx qd_Z_arrive_77 (gm_za (by decide) (by decide)) rfl rfl (by omega) (by decide) ?_
      refine gz_iinc (pc := 78) cx qd_Z_arrive_78 rfl (g_inc k) ?_
      refine gz_goto (tgt := 57) (pc := 81) cx qd_Z_arrive_81 (by decide) ?_
      rw [zTk_s]
      exact ih
  refine gz_aload_n (pc := 0) cx qd_Z_arrive_0 rfl rfl ?_
  refine gz_getR (pc := 1) cx qf_Z_7 qd_Z_arrive_1 gm_Z rfl rfl (hst _ _ _ rfl) ?_
  refine gz_iconst (v := 0) (pc := 4) cx qd_Z_arrive_4 (by decide) ?_
  refine gz_ialoadV (pc := 5) cx qd_Z_arrive_5 (gm_za (by decide) (by decide)) rfl (cell 0 (by omega)) (g_lit 0) (by omega) (by decide) ?_
  refine gz_istore_n (pc := 6) cx qd_Z_arrive_6 rfl (Nat.le_of_ble_eq_true rfl) ?_
  refine gz_aload_n (pc := 7) cx qd_Z_arrive_7 rfl rfl ?_
  refine gz_getR (pc := 8) cx qf_Z_7 qd_Z_arrive_8 gm_Z rfl rfl (hst _ _ _ rfl) ?_
  refine gz_iconst (v := 1) (pc := 11) cx qd_Z_arrive_11 (by decide) ?_
  refine gz_ialoadV (pc := 12) cx qd_Z_arrive_12 (gm_za (by decide) (by decide)) rfl ((cell 1 (by omega)).trans w1) (g_lit 1) (by omega) (by decide) ?_
  refine gz_istore_n (pc := 13) cx qd_Z_arrive_13 rfl (Nat.le_of_ble_eq_true rfl) ?_
  refine gz_aload_n (pc := 14) cx qd_Z_arrive_14 rfl rfl ?_
  refine gz_getR (pc := 15) cx qf_Z_7 qd_Z_arrive_15 gm_Z rfl rfl (hst _ _ _ rfl) ?_
  refine gz_iconst (v := 2) (pc := 18) cx qd_Z_arrive_18 (by decide) ?_
  refine gz_ialoadV (pc := 19) cx qd_Z_arrive_19 (gm_za (by decide) (by decide)) rfl ((cell 2 (by omega)).trans w2) (g_lit 2) (by omega) (by decide) ?_
  refine gz_istore_n (pc := 20) cx qd_Z_arrive_20 rfl (Nat.le_of_ble_eq_true rfl) ?_
  refine gz_aload_n (pc := 21) cx qd_Z_arrive_21 rfl rfl ?_
  refine gz_getR (pc := 22) cx qf_Z_7 qd_Z_arrive_22 gm_Z rfl rfl (hst _ _ _ rfl) ?_
  refine gz_iconst (v := 3) (pc := 25) cx qd_Z_arrive_25 (by decide) ?_
  refine gz_ialoadV (pc := 26) cx qd_Z_arrive_26 (gm_za (by decide) (by decide)) rfl (cell 3 (by omega)) (g_lit 3) (by omega) (by decide) ?_
  refine gz_istore (pc := 27) cx qd_Z_arrive_27 (Nat.le_of_ble_eq_true rfl) ?_
  refine gz_aload_n (pc := 29) cx qd_Z_arrive_29 rfl rfl ?_
  refine gz_getR (pc := 30) cx qf_Z_7 qd_Z_arrive_30 gm_Z rfl rfl (hst _ _ _ rfl) ?_
  refine gz_iconst (v := 4) (pc := 33) cx qd_Z_arrive_33 (by decide) ?_
  refine gz_ialoadV (pc := 34) cx qd_Z_arrive_34 (gm_za (by decide) (by decide)) rfl (cell 4 (by omega)) (g_lit 4) (by omega) (by decide) ?_
  refine gz_istore (pc := 35) cx qd_Z_arrive_35 (Nat.le_of_ble_eq_true rfl) ?_
  refine gz_aload_n (pc := 37) cx qd_Z_arrive_37 rfl rfl ?_
  refine gz_getR (pc := 38) cx qf_Z_7 qd_Z_arrive_38 gm_Z rfl rfl (hst _ _ _ rfl) ?_
  refine gz_iconst (v := 5) (pc := 41) cx qd_Z_arrive_41 (by decide) ?_
  refine gz_ialoadV (pc := 42) cx qd_Z_arrive_42 (gm_za (by decide) (by decide)) rfl (cell 5 (by omega)) (g_lit 5) (by omega) (by decide) ?_
  refine gz_istore (pc := 43) cx qd_Z_arrive_43 (Nat.le_of_ble_eq_true rfl) ?_
  refine gz_aload_n (pc := 45) cx qd_Z_arrive_45 rfl rfl ?_
  refine gz_getR (pc := 46) cx qf_Z_7 qd_Z_arrive_46 gm_Z rfl rfl (hst _ _ _ rfl) ?_
  refine gz_bipush (v := 6) (pc := 49) cx qd_Z_arrive_49 (by decide) ?_
  refine gz_ialoadV (pc := 51) cx qd_Z_arrive_51 (gm_za (by decide) (by decide)) rfl ((cell 6 (by omega)).trans w6) (g_lit 6) (by omega) (by decide) ?_
  refine gz_istore (pc := 52) cx qd_Z_arrive_52 (Nat.le_of_ble_eq_true rfl) ?_
  refine gz_iconst (v := 0) (pc := 54) cx qd_Z_arrive_54 (by decide) ?_
  refine gz_istore (pc := 55) cx qd_Z_arrive_55 (Nat.le_of_ble_eq_true rfl) ?_
  have h0 := copy 0 (Nat.zero_le _)
  dsimp only at h0
  rw [zTk_0] at h0
  exact h0
