/-! words of the constructors (written by gen/p60.py) -/
theorem qo_i : Cond.instanceMethod Lib.objectInit ∈ gTb := (gTb_1 (i := 16) (by rfl) rfl)
theorem qo_c : Cond.code Lib.objectInit ⟨#[0xb1]⟩ 1 none ∈ gTb := (gTb_1 (i := 17) (by rfl) rfl)
theorem qo_G_1 : Cond.methodLink "GossipNodes" 1 Lib.objectInit ∈ gTb := (gTb_1 (i := 15) (by rfl) rfl)
theorem qo_E_3 : Cond.methodLink "GossipNodes$Entry" 3 Lib.objectInit ∈ gTb := (gTb_1 (i := 106) (by rfl) rfl)
theorem qo_F_1 : Cond.methodLink "GossipNodes$Flight" 1 Lib.objectInit ∈ gTb := (gTb_1 (i := 29) (by rfl) rfl)
theorem qo_M_3 : Cond.methodLink "GossipNodes$Message" 3 Lib.objectInit ∈ gTb := (gTb_1 (i := 36) (by rfl) rfl)
theorem qo_N_3 : Cond.methodLink "GossipNodes$Node" 3 Lib.objectInit ∈ gTb := (gTb_1 (i := 97) (by rfl) rfl)
theorem qo_R_1 : Cond.methodLink "GossipNodes$Relay" 1 Lib.objectInit ∈ gTb := (gTb_1 (i := 137) (by rfl) rfl)
theorem qo_Z_1 : Cond.methodLink "GossipNodesModel" 1 Lib.objectInit ∈ gTb := (gTb_3 (i := 11) (by rfl) rfl)
/-- what 'new' rests on -/
def gLc (own : String) (index ci : Nat) : Prop := ∃ (C : String) (T : u_T) (N : Nat) (ty0 : Nat → FieldType), gCl[ci]? = some (C, T, N) ∧ gNf ci = N ∧ (∀ w ∈ u_ws C T N, w ∈ gTb) ∧ (∀ k, k < N → parseFieldDescriptor (T k).2.2.1 = some (ty0 k)) ∧ (∀ k, k < N → defaultValue (ty0 k) = if gRf ci k then .null else .int 0) ∧ Cond.classLink own index C ∈ gTb ∧ Cond.instantiable C N ∈ gTb ∧ Cond.initialized C ∈ gTb
theorem ql_G_22 : Cond.classLink "GossipNodes" 22 "GossipNodes$Flight" ∈ gTb := (gTb_1 (i := 24) (by rfl) rfl)
theorem qc_G_22 : gLc "GossipNodes" 22 1 := ⟨qR_F, qT_F, 4, qt_F, rfl, rfl, qu_F, qk_F, by decide +kernel, ql_G_22, (gTb_1 (i := 25) (by rfl) rfl), (gTb_1 (i := 3) (by rfl) rfl)⟩
theorem ql_G_33 : Cond.classLink "GossipNodes" 33 "GossipNodes$Node" ∈ gTb := (gTb_1 (i := 91) (by rfl) rfl)
theorem qc_G_33 : gLc "GossipNodes" 33 3 := ⟨qR_N, qT_N, 18, qt_N, rfl, rfl, qu_N, qk_N, by decide +kernel, ql_G_33, (gTb_1 (i := 93) (by rfl) rfl), (gTb_1 (i := 5) (by rfl) rfl)⟩
theorem ql_F_9 : Cond.classLink "GossipNodes$Flight" 9 "GossipNodes$Message" ∈ gTb := (gTb_1 (i := 30) (by rfl) rfl)
theorem qc_F_9 : gLc "GossipNodes$Flight" 9 2 := ⟨qR_M, qT_M, 8, qt_M, rfl, rfl, qu_M, qk_M, by decide +kernel, ql_F_9, (gTb_1 (i := 32) (by rfl) rfl), (gTb_1 (i := 4) (by rfl) rfl)⟩
theorem ql_N_11 : Cond.classLink "GossipNodes$Node" 11 "GossipNodes$Relay" ∈ gTb := (gTb_1 (i := 98) (by rfl) rfl)
theorem qc_N_11 : gLc "GossipNodes$Node" 11 4 := ⟨qR_R, qT_R, 4, qt_R, rfl, rfl, qu_R, qk_R, by decide +kernel, ql_N_11, (gTb_1 (i := 133) (by rfl) rfl), (gTb_1 (i := 7) (by rfl) rfl)⟩
theorem ql_N_28 : Cond.classLink "GossipNodes$Node" 28 "GossipNodes$Entry" ∈ gTb := (gTb_1 (i := 100) (by rfl) rfl)
theorem qc_N_28 : gLc "GossipNodes$Node" 28 0 := ⟨qR_E, qT_E, 5, qt_E, rfl, rfl, qu_E, qk_E, by decide +kernel, ql_N_28, (gTb_1 (i := 102) (by rfl) rfl), (gTb_1 (i := 6) (by rfl) rfl)⟩
theorem ql_L_7 : Cond.classLink "GossipNodesLaw" 7 "GossipNodes" ∈ gTb := (gTb_1 (i := 10) (by rfl) rfl)
theorem qc_L_7 : gLc "GossipNodesLaw" 7 5 := ⟨qR_G, qT_G, 5, qt_G, rfl, rfl, qu_G, qk_G, by decide +kernel, ql_L_7, (gTb_1 (i := 11) (by rfl) rfl), (gTb_1 (i := 1) (by rfl) rfl)⟩
theorem ql_L_18 : Cond.classLink "GossipNodesLaw" 18 "GossipNodesModel" ∈ gTb := (gTb_3 (i := 6) (by rfl) rfl)
theorem qc_L_18 : gLc "GossipNodesLaw" 18 6 := ⟨qR_Z, qT_Z, 28, qt_Z, rfl, rfl, qu_Z, qk_Z, by decide +kernel, ql_L_18, (gTb_3 (i := 7) (by rfl) rfl), (gTb_1 (i := 8) (by rfl) rfl)⟩
theorem qr_int : Cond.arrayClass .int ∈ gTb := (gTb_1 (i := 74) (by rfl) rfl)
theorem qr_boolean : Cond.arrayClass .boolean ∈ gTb := (gTb_3 (i := 97) (by rfl) rfl)
/-- what an <init> of a nest mate rests on -/
def gLn (y : MethodName) (ws : List Cond) (n : Nat) : Prop := ∃ (bytes : ByteArray) (maxL : Nat), ws = Cond.code y bytes maxL none :: gTb ∧ Cond.code y bytes maxL none ∈ gTb ∧ Cond.instanceMethod y ∈ gTb ∧ Cond.initialized y.cls ∈ gTb ∧ y.name = "<init>" ∧
  (y.cls ≠ "java/lang/invoke/MethodHandle" ∧ y.cls ≠ "java/lang/invoke/VarHandle" ∧ (parseMethodDescriptor y.desc).map (fun d => d.parameters.length) = some n) ∧ maxL ≤ 21
theorem qn_F_18 : gLn qy_M_init qw_M_init 0 := ⟨qc_M_init, 1, rfl, qi_M_init, (gTb_1 (i := 34) (by rfl) rfl), (gTb_1 (i := 4) (by rfl) rfl), rfl, ⟨by decide, by decide, by decide +kernel⟩, by decide⟩
theorem qn_N_34 : gLn qy_E_init qw_E_init 0 := ⟨qc_E_init, 1, rfl, qi_E_init, (gTb_1 (i := 104) (by rfl) rfl), (gTb_1 (i := 6) (by rfl) rfl), rfl, ⟨by decide, by decide, by decide +kernel⟩, by decide⟩
theorem qn_N_35 : gLn qy_R_init qw_R_init 0 := ⟨qc_R_init, 1, rfl, qi_R_init, (gTb_1 (i := 135) (by rfl) rfl), (gTb_1 (i := 7) (by rfl) rfl), rfl, ⟨by decide, by decide, by decide +kernel⟩, by decide⟩
def gNx (U : State) : Prop := (va_AO "GossipNodes$Entry" U ∧ va_AO "GossipNodes$Message" U ∧ va_AO "GossipNodes$Node" U ∧ va_AO "GossipNodes$Relay" U) ∧ va_Nw (.methodLinkNest "GossipNodes$Flight" 18 qy_M_init "GossipNodes") U ∧ va_Nw (.methodLinkNest "GossipNodes$Node" 34 qy_E_init "GossipNodes") U ∧ va_Nw (.methodLinkNest "GossipNodes$Node" 35 qy_R_init "GossipNodes") U
theorem gNx.warm {s U : State} (hW : s.WarmedH U.vm) (h : gNx s) : gNx U := ⟨⟨va_AO.moved hW.alike h.1.1, va_AO.moved hW.alike h.1.2.1, va_AO.moved hW.alike h.1.2.2.1, va_AO.moved hW.alike h.1.2.2.2⟩, va_Nw.warmM hW h.2.1, va_Nw.warmM hW h.2.2.1, va_Nw.warmM hW h.2.2.2⟩
theorem gNx.same {u U : State} (hv : u.vm = U.vm) (h : gNx u) : gNx U := ⟨⟨va_AO.moved (by rw [hv]; exact Vm.Alike.refl _) h.1.1, va_AO.moved (by rw [hv]; exact Vm.Alike.refl _) h.1.2.1, va_AO.moved (by rw [hv]; exact Vm.Alike.refl _) h.1.2.2.1, va_AO.moved (by rw [hv]; exact Vm.Alike.refl _) h.1.2.2.2⟩, va_Nw.same rfl hv h.2.1, va_Nw.same rfl hv h.2.2.1, va_Nw.same rfl hv h.2.2.2⟩
theorem gNx.of {args : Array Value} {s : State} (hts : ∀ w ∈ lw_tbl, w.before args s = true) : gNx s := ⟨⟨va_AO.of (hts (Cond.arrayOver (.object "GossipNodes$Entry")) (List.mem_append_right _ (List.mem_append_left _ (List.mem_of_getElem? (i := 101) (by rfl))))), va_AO.of (hts (Cond.arrayOver (.object "GossipNodes$Message")) (List.mem_append_right _ (List.mem_append_left _ (List.mem_of_getElem? (i := 31) (by rfl))))), va_AO.of (hts (Cond.arrayOver (.object "GossipNodes$Node")) (List.mem_append_right _ (List.mem_append_left _ (List.mem_of_getElem? (i := 92) (by rfl))))), va_AO.of (hts (Cond.arrayOver (.object "GossipNodes$Relay")) (List.mem_append_right _ (List.mem_append_left _ (List.mem_of_getElem? (i := 99) (by rfl)))))⟩, va_Nw.of rfl (hts (Cond.methodLinkNest "GossipNodes$Flight" 18 qy_M_init "GossipNodes") (List.mem_append_right _ (List.mem_append_left _ (List.mem_of_getElem? (i := 33) (by rfl))))), va_Nw.of rfl (hts (Cond.methodLinkNest "GossipNodes$Node" 34 qy_E_init "GossipNodes") (List.mem_append_right _ (List.mem_append_left _ (List.mem_of_getElem? (i := 103) (by rfl))))), va_Nw.of rfl (hts (Cond.methodLinkNest "GossipNodes$Node" 35 qy_R_init "GossipNodes") (List.mem_append_right _ (List.mem_append_left _ (List.mem_of_getElem? (i := 134) (by rfl)))))⟩
/-- a constructor's contract -/
def gPx (G : gG) (t : Nat) (av : List gV) (S : gS) : Array Value → State → Prop := fun a U => gPc G t av S a U ∧ gNx U
def gMx (G : gG) (l : Launch) (y : MethodName) (ws : List Cond) (d mc ms t t' : Nat) (av : List gV) (S : gS) (Rt : Option gV → gS → Prop) : Prop :=
  Met l y ws { frames := d, cells := mc, slots := ms, locals := 40 * d } (gPx G t av S) (gQ G t' Rt) mc ms (gA G)
theorem gx_blind (G : gG) (t : Nat) (av : List gV) (S : gS) : FrameBlind (gPx G t av S) := fun a U g mk h => ⟨g_blind G t av S a U g mk h.1, gNx.same (u := U) rfl h.2⟩
theorem arrV_co {cA : ClassId} {n : Nat} {f g : Nat → Value} (h : ∀ j, j < n → f j = g j) : arrV cA n f = arrV cA n g := by
  unfold arrV
  have e : (fun j : Fin n => f j.val) = fun j => g j.val := funext fun j => h j.val j.isLt
  rw [e]
theorem gP.chg {G : gG} {t : Nat} {S S' : gS} {H : Heap} (h : gP G t S H) (ho : ∀ k ∈ gKs G t, (∀ ci, gSh G.1 k = .inl ci → ∀ f, f < gNf ci → S'.1 k f = S.1 k f ∧ S'.2 k f = S.2 k f) ∧ ∀ ty n, gSh G.1 k = .inr (ty, n) → ∀ j, j < n → S'.1 k j = S.1 k j ∧ S'.2 k j = S.2 k j) : gP G t S' H := by
  refine ⟨fun i q hq => ?_, h.2⟩
  simp only [gW, List.getElem?_map] at hq
  cases hk : (gKs G t)[i]? with
  | none => rw [hk] at hq; cases hq
  | some k =>
    rw [hk] at hq
    cases hq
    have hw : (gW G t S)[i]? = some (gAd G k, gE G S k) := by rw [gW, List.getElem?_map, hk]; rfl
    have h0 := h.1 i _ hw
    obtain ⟨o1, o2⟩ := ho k (List.mem_of_getElem? hk)
    show va_at G.2.2.2 gCl (gAd G k, gE G S' k) H
    cases hs : gSh G.1 k with
    | inl ci =>
      rw [gE_obj hs] at h0 ⊢
      have e : gFs G S' k ci = gFs G S k ci := by
        unfold gFs
        apply List.map_congr_left
        intro f hf
        obtain ⟨a, b⟩ := o1 ci hs f (List.mem_range.mp hf)
        rw [a, b]
      rw [e]; exact h0
    | inr q =>
      obtain ⟨ty, n⟩ := q
      rw [gE_arr hs] at h0 ⊢
      have h1 : H[gAd G k]? = some (vp_cell (G.2.2.1 ty) (n, gAr G S k ty)) := h0
      show H[gAd G k]? = some (vp_cell (G.2.2.1 ty) (n, gAr G S' k ty))
      rw [h1]
      congr 1
      unfold gAr
      by_cases ht : ty < 2
      · rw [if_pos ht, if_pos ht, vp_cell_i, vp_cell_i]
        exact arrV_co (fun j hj => by rw [(o2 ty n hs j hj).1])
      · rw [if_neg ht, if_neg ht, vp_cell_q, vp_cell_q]
        exact arrV_co (fun j hj => by rw [(o2 ty n hs j hj).2])
/-! one more cell -/
theorem gKs_push {G : gG} {t : Nat} {k : gK} (h : (gOrd G.1)[t]? = some k) : gKs G (t + 1) = gKs G t ++ [k] := by
  have hl := (List.getElem?_eq_some_iff.mp h).1
  unfold gKs
  rw [List.take_succ_eq_append_getElem hl]
  congr 2
  exact Option.some.inj ((List.getElem?_eq_getElem hl).symm.trans h)
theorem gKs_has {G : gG} {t p : Nat} {k : gK} (h : (gOrd G.1)[p]? = some k) (hp : p < t) : k ∈ gKs G t := by
  unfold gKs
  refine List.mem_of_getElem? (i := p) ?_
  rw [List.getElem?_take_of_lt hp]; exact h
theorem gAd_at {G : gG} {t : Nat} {k : gK} (hn : (gOrd G.1).Nodup) (h : (gOrd G.1)[t]? = some k) : gAd G k = G.2.1 + t := by
  unfold gAd
  rw [if_pos (List.mem_of_getElem? h)]
  congr 1
  obtain ⟨hl, e⟩ := List.getElem?_eq_some_iff.mp h
  rw [← e]
  exact List.Nodup.idxOf_getElem hn t hl
theorem gP.push {G : gG} {t : Nat} {S : gS} {H H1 : Heap} {k : gK} (hn : (gOrd G.1).Nodup) (hk : (gOrd G.1)[t]? = some k) (hP : gP G t S H) (z1 : H1.size = H.size + 1) (o1 : ∀ q, q < H.size → H1[q]? = H[q]?) (hnew : va_at G.2.2.2 gCl (H.size, gE G S k) H1) : gP G (t + 1) S H1 := by
  refine ⟨?_, by rw [z1, hP.2]; omega⟩
  have e : gW G (t + 1) S = gW G t S ++ [(gAd G k, gE G S k)] := by unfold gW; rw [gKs_push hk, List.map_append]; rfl
  rw [e]
  refine (hP.1.kept (fun k x hx => o1 x.1 ((hP.1 k x hx).lt))).app (fun i x hx => ?_)
  have hz : i < 1 := (List.getElem?_eq_some_iff.mp hx).1
  rw [show i = 0 by omega] at hx
  cases hx
  rw [gAd_at hn hk, ← hP.2]
  exact hnew
theorem g_new_S {G : gG} {H0 H H1 : Heap} {locs : List Loc} (hS : va_S (gA G) H0 H locs) (z1 : H1.size = H.size + 1) (o1 : ∀ q, q < H.size → H1[q]? = H[q]?) : va_S (gA G) H0 H1 locs := ⟨Nat.le_trans hS.1 (by omega), fun x h1 h2 => (o1 x (Nat.lt_of_lt_of_le h1 hS.1)).trans (hS.2.1 x h1 h2), hS.2.2⟩
section GZX
variable {G : gG} {E : gEnv} {cells slots : Nat} {Q : State → Prop} {t pc : Nat} {lv : List (Option gV)} {st : List gV} {S : gS} {cc : ByteArray} {nL : Nat} {own : String} {d : Nat}
theorem gz_objInit (cx : gC G E cc nL own d) {index : Nat} {k : gK} (hl1 : Cond.methodLink own index Lib.objectInit ∈ gTb) (hd : decode cc pc = .ok (.invokespecial index, 3)) (hdd : 1 ≤ d) (hnl : lv.length = nL) (hsl : st.length ≤ 8)
    (kk : gZ G E cells slots Q t (pc + 3) lv st S) : gZ G E cells slots Q t pc lv (.inr (some k) :: st) S := by
  intro ls H locs hl hP hS
  obtain ⟨hx, hcb, hml, hown, hts, hK, hfr, hlo, hsy⟩ := cx
  refine W.objInit hx hcb hown (hts _ hl1) (hts _ qo_i) (hts _ qo_c) rfl (by rw [hml, ← hnl]; exact hl.1) rfl hd (by omega) ?_ (kk ls H locs hl hP hS)
  have e := lv_room (m := E.2.2.2.2.2.1) (pc := pc) (ls := ls) (st := st.map (gc G)) (rest := gc G (.inr (some k)) :: st.map (gc G)) (by rw [g_cats]; exact hsl)
  have e2 : 2 * (F0 E.2.2.2.2.2.1 pc ls (gc G (.inr (some k)) :: st.map (gc G))).monitorRoom + ((st.map (gc G)).map fun v => v.category).sum ≤ 8 := e
  show 2 * (F0 E.2.2.2.2.2.1 pc ls (gc G (.inr (some k)) :: st.map (gc G))).monitorRoom + ((st.map (gc G)).map fun v => v.category).sum + 12 ≤ _
  omega
theorem gz_new (cx : gC G E cc nL own d) {index ci : Nat} {k : gK} (hlc : gLc own index ci) (hd : decode cc pc = .ok (.new index, 3)) (hk : (gOrd G.1)[t]? = some k) (hs : gSh G.1 k = .inl ci) (hz : ∀ f, f < gNf ci → S.1 k f = 0 ∧ S.2 k f = none) (hf : cells + 1 ≤ E.2.2.2.1.cells ∧ slots + gNf ci ≤ E.2.2.2.1.slots)
    (kk : gZ G E (cells + 1) (slots + gNf ci) Q (t + 1) (pc + 3) lv (.inr (some k) :: st) S) : gZ G E cells slots Q t pc lv st S := by
  intro ls H locs hl hP hS
  obtain ⟨C, T, N, ty0, hc, hN, hu, hty, hdv, hlk, hins, hini⟩ := hlc
  obtain ⟨hx, hcb, hml, hown, hts, hK, hfr, hlo, hsy⟩ := cx
  have hKn := hK.1.1 ci _ hc
  rw [hN] at hf kk
  refine W.newcK hx hcb hown (hts _ hlk) (hts _ hins) (hts _ hini) rfl hd hf.1 hf.2 hKn.2.1 rfl fun H1 kC hkC e1 z1 o1 => ?_
  have h := kk ls H1 locs hl (hP.push hK.2 hk z1 o1 ?_) (g_new_S hS z1 o1)
  · have ea : gc G (.inr (some k)) = .ref H.size := by show Value.ref (gAd G k) = _; rw [gAd_at hK.2 hk, hP.2]
    rw [List.map_cons, ea] at h
    exact h
  · rw [gE_obj hs]
    refine ⟨_, hc, (u_born ty0 hts hu hKn hkC e1 hty).to (fun f hf => ?_)⟩
    rw [hdv f hf, vp_V, List.getD_eq_getElem?_getD, gFs_at (by rw [hN]; exact hf)]
    obtain ⟨a, b⟩ := hz f (by rw [hN]; exact hf)
    rw [a, b]
    cases gRf ci f <;> rfl
theorem g_cA {G : gG} {s : State} {cA : ClassId} {ty : Nat} (hK : gKn G s) (ht : ty < gNt) (h : s.vm.findClass ("[" ++ (gTy ty).toString) = some cA) : cA = G.2.2.1 ty := by
  have h2 := (hK.1.2 ty _ (gTys_at ht)).2
  have h3 : s.vm.findClass ("[" ++ (gTy ty).toString) = some (G.2.2.1 ty) := by
    match ty, ht with
    | 0, _ => exact h2
    | 1, _ => exact h2
    | 2, _ => obtain ⟨_, _, _, _, _, e⟩ := h2; exact e
    | 3, _ => obtain ⟨_, _, _, _, _, e⟩ := h2; exact e
    | 4, _ => obtain ⟨_, _, _, _, _, e⟩ := h2; exact e
    | 5, _ => obtain ⟨_, _, _, _, _, e⟩ := h2; exact e
    | n + 6, hn => exact absurd hn (by unfold gNt; omega)
  exact Option.some.inj (h.symm.trans h3)
theorem gz_newarray (cx : gC G E cc nL own d) {at0 : ArrayType} {ty n : Nat} {x : Int32} {k : gK} (hat : newarray.typeOf at0 = gTy ty) (hw : Cond.arrayClass (newarray.typeOf at0) ∈ gTb) (hdv : defaultValue (newarray.typeOf at0) = .int 0) (hcb0 : componentBytes (newarray.typeOf at0) ≤ 4) (hty : ty < 2) (hd : decode cc pc = .ok (.newarray at0, 2)) (hk : (gOrd G.1)[t]? = some k) (hs : gSh G.1 k = .inr (ty, n)) (hx : x = nI n) (hn : n ≤ 2000) (hz : ∀ j, j < n → S.1 k j = 0) (hf : cells + 1 ≤ E.2.2.2.1.cells ∧ slots + n ≤ E.2.2.2.1.slots)
    (kk : gZ G E (cells + 1) (slots + n) Q (t + 1) (pc + 2) lv (.inr (some k) :: st) S) : gZ G E cells slots Q t pc lv (.inl x :: st) S := by
  subst hx
  intro ls H locs hl hP hS
  obtain ⟨hx, hcb, hml, hown, hts, hK, hfr, hlo, hsy⟩ := cx
  refine va_newaK hx hcb (hts _ hw) rfl hd rfl (nI_pos (by omega)) (nI_clamp (by omega)) (Nat.le_trans (Nat.mul_le_mul hn hcb0) (by decide)) hf.1 hf.2 rfl fun H1 cA e1 z1 o1 hAr hNm => ?_
  have h := kk ls H1 locs hl (hP.push hK.2 hk z1 o1 ?_) (g_new_S hS z1 o1)
  · have ea : gc G (.inr (some k)) = .ref H.size := by show Value.ref (gAd G k) = _; rw [gAd_at hK.2 hk, hP.2]
    rw [List.map_cons, ea] at h
    exact h
  · rw [gE_arr hs]
    show H1[H.size]? = some (vp_cell _ _)
    rw [e1]
    rw [hat] at hNm
    rw [g_cA hK (by unfold gNt; omega) hNm, gAr, if_pos hty, vp_cell_i]
    congr 1
    exact arrV_co (fun j hj => by rw [hdv, hz j hj])
theorem gz_anewarray (cx : gC G E cc nL own d) {index ty n : Nat} {C : String} {x : Int32} {k : gK} (hat : gTy ty = .object C) (hw : Cond.classLink own index C ∈ gTb) (ho : va_AO C E.2.2.2.2.1) (hty : 2 ≤ ty ∧ ty < gNt) (hd : decode cc pc = .ok (.anewarray index, 3)) (hk : (gOrd G.1)[t]? = some k) (hs : gSh G.1 k = .inr (ty, n)) (hx : x = nI n) (hn : n ≤ 2000) (hz : ∀ j, j < n → S.2 k j = none) (hf : cells + 1 ≤ E.2.2.2.1.cells ∧ slots + n ≤ E.2.2.2.1.slots)
    (kk : gZ G E (cells + 1) (slots + n) Q (t + 1) (pc + 3) lv (.inr (some k) :: st) S) : gZ G E cells slots Q t pc lv (.inl x :: st) S := by
  subst hx
  intro ls H locs hl hP hS
  obtain ⟨hx, hcb, hml, hown, hts, hK, hfr, hlo, hsy⟩ := cx
  have hc : (nI n).toNatClampNeg = n := nI_clamp (by omega)
  refine W.anew hx hcb hown (hts _ hw) (va_AO.use ho) rfl hd rfl (nI_pos (by omega)) (by rw [hc]; omega) hf.1 (by rw [hc]; exact hf.2) fun cA kA comp f1 f2 f3 f4 => ?_
  rw [hc]
  generalize hH1 : H.push ({ cls := cA, slots := Array.replicate n .null, vm := .none } : Cell) = H1
  have z1 : H1.size = H.size + 1 := by rw [← hH1, Array.size_push]
  have e1 : H1[H.size]? = some (arrV cA n (fun _ => .null)) := by rw [← hH1, Array.getElem?_push_size, ← arrV_new]
  have o1 : ∀ q : Nat, q < H.size → H1[q]? = H[q]? := fun q hq => by rw [← hH1, Array.getElem?_push, if_neg (Nat.ne_of_lt hq)]
  have h := kk ls H1 locs hl (hP.push hK.2 hk z1 o1 ?_) (g_new_S hS z1 o1)
  · have ea : gc G (.inr (some k)) = .ref H.size := by show Value.ref (gAd G k) = _; rw [gAd_at hK.2 hk, hP.2]
    rw [List.map_cons, ea] at h
    exact h
  · rw [gE_arr hs]
    show H1[H.size]? = some (vp_cell _ _)
    rw [e1]
    rw [← hat] at f1
    rw [g_cA hK hty.2 f1, gAr, if_neg (by omega), vp_cell_q]
    congr 1
    exact arrV_co (fun j hj => by rw [hz j hj]; rfl)
theorem gz_callI (cx : gC G E cc nL own d) (hnx : gNx E.2.2.2.2.1) {y : MethodName} {ws : List Cond} {d' mc ms t' n index : Nat} {b : gK} {As st0 : List gV} {Rt : Option gV → gS → Prop} (hlv : gLi own index y ws n) (hd : decode cc pc = .ok (.invokespecial index, 3)) (hM : gMx G E.2.1 y ws d' mc ms t t' (.inr (some b) :: As) S Rt) (hdd : d' < d) (hn : As.length = n) (hst : st0 = As.reverse ++ .inr (some b) :: st) (hnl : lv.length = nL) (hsl : st.length ≤ 8) (hf : cells + mc ≤ E.2.2.2.1.cells ∧ slots + ms ≤ E.2.2.2.1.slots)
    (kk : ∀ (v : Option gV) (S' : gS), Rt v S' → gZ G E (cells + mc) (slots + ms) Q t' (pc + 3) lv (v.toList ++ st) S') : gZ G E cells slots Q t pc lv st0 S := by
  subst hst
  intro ls H locs hl hP hS
  obtain ⟨bytes, maxL, hw, hcd, hml2, hins, hini, hnm, hy, hm⟩ := hlv
  subst hw
  have hG := gGood hcd
  obtain ⟨hx, hcb, hml, hown, hts, hK, hfr, hlo, hsy⟩ := cx
  refine g_callW (va_runI (As := As.map (gc G)) (rest := st.map (gc G)) (nL := nL) ⟨hx, hcb, hml, hown, hts⟩ hM ⟨callB_of n hts hG rfl rfl rfl (hts _ hini) (hts _ hml2) hy ⟨by show d' + 1 ≤ _; omega, by show 8 + (maxL + 11) + 40 * d' ≤ _; omega⟩, hnm, hts _ hins⟩ ⟨gx_blind G t _ S, fun U hU hW => ⟨⟨rfl, by rw [hU]; exact hP, hK.moved hW.alike⟩, gNx.warm hW hnx⟩⟩ rfl (by rw [List.length_map]; exact hn) (by rw [← hnl]; exact hl.1) (by show List.map (gc G) _ = _; rw [List.map_append, List.map_reverse]; rfl) (lv_room (by rw [g_cats]; exact hsl)) hd hf) hS (fun v S' H1 locs1 hR hP1 hS1 => ?_)
  have h := kk v S' hR ls H1 locs1 hl hP1 hS1
  rw [List.map_append] at h
  cases v <;> exact h
theorem gz_callN (cx : gC G E cc nL own d) (hnx : gNx E.2.2.2.2.1) {y : MethodName} {ws : List Cond} {d' mc ms t' n index : Nat} {host : String} {b : gK} {As st0 : List gV} {Rt : Option gV → gS → Prop} (hlv : gLn y ws n) (hlk : va_Nw (.methodLinkNest own index y host) E.2.2.2.2.1) (hd : decode cc pc = .ok (.invokespecial index, 3)) (hM : gMx G E.2.1 y ws d' mc ms t t' (.inr (some b) :: As) S Rt) (hdd : d' < d) (hn : As.length = n) (hst : st0 = As.reverse ++ .inr (some b) :: st) (hnl : lv.length = nL) (hsl : st.length ≤ 8) (hf : cells + mc ≤ E.2.2.2.1.cells ∧ slots + ms ≤ E.2.2.2.1.slots)
    (kk : ∀ (v : Option gV) (S' : gS), Rt v S' → gZ G E (cells + mc) (slots + ms) Q t' (pc + 3) lv (v.toList ++ st) S') : gZ G E cells slots Q t pc lv st0 S := by
  subst hst
  intro ls H locs hl hP hS
  obtain ⟨bytes, maxL, hw, hcd, hins, hini, hnm, hy, hm⟩ := hlv
  subst hw
  have hG := gGood hcd
  obtain ⟨hx, hcb, hml, hown, hts, hK, hfr, hlo, hsy⟩ := cx
  refine g_callW (va_runIN (As := As.map (gc G)) (rest := st.map (gc G)) (nL := nL) ⟨hx, hcb, hml, hown, hts⟩ hM ⟨va_cnB n hts hG rfl rfl rfl hlk (hts _ hini) hy ⟨by show d' + 1 ≤ _; omega, by show 8 + (maxL + 11) + 40 * d' ≤ _; omega⟩, hnm, hts _ hins⟩ ⟨gx_blind G t _ S, fun U hU hW => ⟨⟨rfl, by rw [hU]; exact hP, hK.moved hW.alike⟩, gNx.warm hW hnx⟩⟩ rfl (by rw [List.length_map]; exact hn) (by rw [← hnl]; exact hl.1) (by show List.map (gc G) _ = _; rw [List.map_append, List.map_reverse]; rfl) (lv_room (by rw [g_cats]; exact hsl)) hd hf) hS (fun v S' H1 locs1 hR hP1 hS1 => ?_)
  have h := kk v S' hR ls H1 locs1 hl hP1 hS1
  rw [List.map_append] at h
  cases v <;> exact h
theorem gz_widen {c2 s2 : Nat} (h1 : cells ≤ c2) (h2 : slots ≤ s2) (kk : gZ G E c2 s2 Q t pc lv st S) : gZ G E cells slots Q t pc lv st S := fun ls H locs hl hP hS => W.widen h1 h2 (kk ls H locs hl hP hS)
end GZX
theorem gMx_of {G : gG} {l : Launch} {y : MethodName} {ws : List Cond} {d mc ms t t' : Nat} {av : List gV} {S : gS} {Rt : Option gV → gS → Prop} {cc : ByteArray} {maxL : Nat} {ret : Option FieldType} (hy : plainName y.cls = true) (hw : ws = Cond.code y cc maxL ret :: gTb) (hL : av.length ≤ maxL)
    (body : ∀ E : gEnv, gC G E cc maxL y.cls d → gNx E.2.2.2.2.1 → E.2.2.2.2.2.2.2.2.1.sig.returnType = ret → E.2.2.2.2.2.2.2.2.1.name = y.name → E.2.2.2.1.cells = mc → E.2.2.2.1.slots = ms → E.2.1 = l → gZ G E 0 0 (gEnd G E mc ms t' Rt) t 0 (av.map some ++ List.replicate (maxL - av.length) none) [] S) : gMx G l y ws d mc ms t t' av S Rt := by
  refine Met.ofW (cc := cc) (maxL := maxL) (ret := ret) hy hw ?_
  intro p e s m args below meth c s₁ B hml hv
  obtain ⟨⟨rfl, hP, hK⟩, hnx⟩ := hv
  have hb := body (p, l, e, (headSpec ws { frames := d, cells := mc, slots := ms, locals := 40 * d }).room, s, m, _, below, meth, c) ⟨B.exec, B.bytes, hml, findClass_of_methodNamed B.named, (fun w h => atoms_spec (ws := ws) B.pre w (by rw [hw]; exact List.mem_cons_of_mem _ h)), hK, Nat.le_refl _, Nat.le_refl _, B.notSynchronized⟩ hnx B.returns (name_of_methodNamed B.named B.method).1 rfl rfl rfl
  rw [lg_entry_eq]
  exact hb _ s.heap [] (g_entry hL) hP va_S.rf
