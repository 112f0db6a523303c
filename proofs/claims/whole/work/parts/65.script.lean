/-! the script: a cell that was there before -/
theorem gAd_scr {G : gG} {b : Nat} : gAd G (99, b, 0) = b := by unfold gAd; rw [if_neg gOrd_99]
theorem gc_scr {G : gG} {b : Nat} : gc G (.inr (some (99, b, 0))) = .ref b := by show Value.ref (gAd G (99, b, 0)) = _; rw [gAd_scr]
section GZS
variable {G : gG} {E : gEnv} {cells slots : Nat} {Q : State → Prop} {t pc : Nat} {lv : List (Option gV)} {st : List gV} {S : gS} {cc : ByteArray} {nL : Nat} {own : String} {d : Nat}
theorem gz_sld (cx : gC G E cc nL own d) {b L j : Nat} {xs : Nat → Int32} {x : Int32} (hX : va_X b L xs E.2.2.2.2.1 E.2.2.2.2.1.heap) (hb : b < G.2.1 ∧ b < E.2.2.2.2.1.heap.size) (hL : L < 2 ^ 31) (hd : decode cc pc = .ok (.iaload, 1)) (hx : x = nI j) (hj : j < L)
    (kk : gZ G E cells slots Q t (pc + 1) lv (.inl (xs j) :: st) S) : gZ G E cells slots Q t pc lv (.inl x :: .inr (some (99, b, 0)) :: st) S := by
  subst hx
  intro ls H locs hl hP hS
  have h := kk ls H locs hl hP hS
  rw [List.map_cons, List.map_cons, gc_scr]
  refine va_sld cx.1 cx.2.1 hX hb.2 (fun q => absurd q (Nat.not_le.mpr hb.1)) hS (nI_in hj hL) hd ?_
  rw [nI_clamp (by omega)]; exact h
theorem gz_slen (cx : gC G E cc nL own d) {b L : Nat} {xs : Nat → Int32} (hX : va_X b L xs E.2.2.2.2.1 E.2.2.2.2.1.heap) (hb : b < G.2.1 ∧ b < E.2.2.2.2.1.heap.size) (hd : decode cc pc = .ok (.arraylength, 1))
    (kk : gZ G E cells slots Q t (pc + 1) lv (.inl (nI L) :: st) S) : gZ G E cells slots Q t pc lv (.inr (some (99, b, 0)) :: st) S := by
  intro ls H locs hl hP hS
  have h := kk ls H locs hl hP hS
  rw [List.map_cons, gc_scr]
  exact va_slen cx.1 cx.2.1 hX hb.2 (fun q => absurd q (Nat.not_le.mpr hb.1)) hS hd h
end GZS
/-- a static method's contract that also asks what Ex says -/
def gPp (G : gG) (t : Nat) (av : List gV) (S : gS) (Ex : State → Prop) : Array Value → State → Prop := fun a U => gPc G t av S a U ∧ Ex U
def gMp (G : gG) (l : Launch) (y : MethodName) (ws : List Cond) (d mc ms t t' : Nat) (av : List gV) (S : gS) (Ex : State → Prop) (Rt : Option gV → gS → Prop) : Prop :=
  Met l y ws { frames := d, cells := mc, slots := ms, locals := 40 * d } (gPp G t av S Ex) (gQ G t' Rt) mc ms (gA G)
theorem gMp_of {G : gG} {l : Launch} {y : MethodName} {ws : List Cond} {d mc ms t t' : Nat} {av : List gV} {S : gS} {Ex : State → Prop} {Rt : Option gV → gS → Prop} {cc : ByteArray} {maxL : Nat} {ret : Option FieldType} (hy : plainName y.cls = true) (hw : ws = Cond.code y cc maxL ret :: gTb) (hL : av.length ≤ maxL)
    (body : ∀ E : gEnv, gC G E cc maxL y.cls d → Ex E.2.2.2.2.1 → gP G t S E.2.2.2.2.1.heap → E.2.2.2.2.2.2.2.2.1.sig.returnType = ret → E.2.1 = l → gZ G E 0 0 (gEnd G E mc ms t' Rt) t 0 (av.map some ++ List.replicate (maxL - av.length) none) [] S) : gMp G l y ws d mc ms t t' av S Ex Rt := by
  refine Met.ofW (cc := cc) (maxL := maxL) (ret := ret) hy hw ?_
  intro p e s m args below meth c s₁ B hml hv
  obtain ⟨⟨rfl, hP, hK⟩, hex⟩ := hv
  have hb := body (p, l, e, (headSpec ws { frames := d, cells := mc, slots := ms, locals := 40 * d }).room, s, m, _, below, meth, c) ⟨B.exec, B.bytes, hml, findClass_of_methodNamed B.named, (fun w h => atoms_spec (ws := ws) B.pre w (by rw [hw]; exact List.mem_cons_of_mem _ h)), hK, Nat.le_refl _, Nat.le_refl _, B.notSynchronized⟩ hex hP B.returns rfl
  rw [lg_entry_eq]
  exact hb _ s.heap [] (g_entry hL) hP va_S.rf
theorem gz_callP {G : gG} {E : gEnv} {cells slots : Nat} {Q : State → Prop} {t pc : Nat} {lv : List (Option gV)} {st : List gV} {S : gS} {cc : ByteArray} {nL : Nat} {own : String} {d : Nat} (cx : gC G E cc nL own d) {y : MethodName} {ws : List Cond} {d' mc ms t' n index : Nat} {As st0 : List gV} {Ex : State → Prop} {Rt : Option gV → gS → Prop} (hlv : gLs own index y ws n) (hd : decode cc pc = .ok (.invokestatic index, 3)) (hM : gMp G E.2.1 y ws d' mc ms t t' As S Ex Rt) (hbl : ∀ (a : Array Value) (U : State) (g : JFrame) (mk : MethodId), Ex U → Ex (U.calling g mk a)) (hex : ∀ (U : State) (H : Heap) (locs : List Loc), va_S (gA G) E.2.2.2.2.1.heap H locs → U.heap = H → E.2.2.2.2.1.vm.Alike U.vm → Ex U) (hdd : d' < d) (hn : As.length = n) (hst : st0 = As.reverse ++ st) (hnl : lv.length = nL) (hsl : st.length ≤ 8) (hf : cells + mc ≤ E.2.2.2.1.cells ∧ slots + ms ≤ E.2.2.2.1.slots)
    (kk : ∀ (v : Option gV) (S' : gS), Rt v S' → gZ G E (cells + mc) (slots + ms) Q t' (pc + 3) lv (v.toList ++ st) S') : gZ G E cells slots Q t pc lv st0 S := by
  subst hst
  intro ls H locs hl hP hS
  obtain ⟨bytes, maxL, ret, hw, hcd, hml2, hins, hini, hy, hm⟩ := hlv
  subst hw
  have hG := gGood hcd
  obtain ⟨hx, hcb, hml, hown, hts, hK, hfr, hlo, hsy⟩ := cx
  refine g_callW (va_runS (As := As.map (gc G)) (rest := st.map (gc G)) (nL := nL) ⟨hx, hcb, hml, hown, hts⟩ hM ⟨callB_of n hts hG rfl rfl rfl (hts _ hini) (hts _ hml2) hy ⟨by show d' + 1 ≤ _; omega, by show 8 + (maxL + 11) + 40 * d' ≤ _; omega⟩, hts _ hins⟩ ⟨fun a U g mk h => ⟨g_blind G t _ S a U g mk h.1, hbl a U g mk h.2⟩, fun U hU hW => ⟨⟨rfl, by rw [hU]; exact hP, hK.moved hW.alike⟩, hex U H locs hS hU hW.alike⟩⟩ rfl (by rw [List.length_map]; exact hn) (by rw [← hnl]; exact hl.1) (by show List.map (gc G) _ = _; rw [List.map_append, List.map_reverse]) (lv_room (by rw [g_cats]; exact hsl)) hd hf) hS (fun v S' H1 locs1 hR hP1 hS1 => ?_)
  have h := kk v S' hR ls H1 locs1 hl hP1 hS1
  rw [List.map_append] at h
  cases v <;> exact h
/-- the first number of a script, 0 if it has none -/
def xs0 (L : Nat) (xs : Nat → Int32) : Int32 := if 0 < L then xs 0 else 0
theorem gc_L_cell {G : gG} {la : Launch} {S : gS} {t b L : Nat} {xs : Nat → Int32} (hL : L < 2 ^ 31) (hb : b < G.2.1) : gMp G la qy_L_cell qw_L_cell 0 0 0 t t [.inr (some (99, b, 0)), .inl 0] S (fun U => va_X b L xs U U.heap) (fun v S' => v = some (.inl (xs0 L xs)) ∧ S' = S) := by
  refine gMp_of (cc := qc_L_cell) (maxL := 2) (by decide) rfl (Nat.le_of_ble_eq_true rfl) ?_
  intro E cx hX hP hr hEl
  subst hEl
  have hb2 : b < G.2.1 ∧ b < E.2.2.2.2.1.heap.size := ⟨hb, by rw [hP.2]; omega⟩
  refine gz_iload_n (pc := 0) cx qd_L_cell_0 rfl rfl ?_
  refine gz_aload_n (pc := 1) cx qd_L_cell_1 rfl rfl ?_
  refine gz_slen (pc := 2) cx hX hb2 qd_L_cell_2 ?_
  refine gz_icmp_ge (tgt := 12) (pc := 3) cx qd_L_cell_3 (by decide) (fun h3 => ?_) (fun h3 => ?_)
  · refine gz_iconst (v := 0) (pc := 12) cx qd_L_cell_12 (by decide) ?_
    refine gz_ireturn (pc := 13) cx hr rfl qd_L_cell_13 ?_
    have h0 : ¬ 0 < L := fun q => nI_ge q hL (show nI L ≤ nI 0 from h3)
    exact ⟨by unfold xs0; rw [if_neg h0], rfl⟩
  · have h0 : 0 < L := Classical.byContradiction fun q => h3 (by
      have e : L = 0 := by omega
      subst e; exact Int32.le_refl _)
    refine gz_aload_n (pc := 6) cx qd_L_cell_6 rfl rfl ?_
    refine gz_iload_n (pc := 7) cx qd_L_cell_7 rfl rfl ?_
    refine gz_sld (j := 0) (pc := 8) cx hX hb2 hL qd_L_cell_8 rfl h0 ?_
    refine gz_goto (tgt := 13) (pc := 9) cx qd_L_cell_9 (by decide) ?_
    refine gz_ireturn (pc := 13) cx hr rfl qd_L_cell_13 ?_
    exact ⟨by unfold xs0; rw [if_pos h0], rfl⟩
theorem xs_blind {b L : Nat} {xs : Nat → Int32} (a : Array Value) (U : State) (g : JFrame) (mk : MethodId) (h : va_X b L xs U U.heap) : va_X b L xs (U.calling g mk a) (U.calling g mk a).heap := va_X.moved (u := U) (U := U.calling g mk a) (Vm.Alike.refl U.vm) h
theorem xs_here {G : gG} {b L : Nat} {xs : Nat → Int32} {s : State} (hX : va_X b L xs s s.heap) (hb : b < G.2.1 ∧ b < s.heap.size) (U : State) (H : Heap) (locs : List Loc) (hS : va_S (gA G) s.heap H locs) (hU : U.heap = H) (hW : s.vm.Alike U.vm) : va_X b L xs U U.heap := by
  rw [hU]
  exact va_X.moved hW (hX.kept (hS.2.1 b hb.2 (fun q => absurd q (Nat.not_le.mpr hb.1))))
/-- how many nodes: both systems agree -/
theorem n_of (x : Int32) : ∃ n : Nat, (n ≤ 8 ∧ 2 ≤ n) ∧ (if (if (2 : Int32) < x then x else 2) < 8 then (if (2 : Int32) < x then x else 2) else 8) = nI n ∧ (if x < 2 then (2 : Int32) else if x ≤ 8 then x else 8) = nI n := by
  by_cases h2 : x < 2
  · refine ⟨2, by decide, ?_, ?_⟩
    · rw [if_neg (Int32.lt_asymm h2)]; rfl
    · rw [if_pos h2]; rfl
  · have hx0 : ¬ x < 0 := fun q => h2 (Int32.lt_trans q (by decide))
    obtain ⟨j, hj, rfl⟩ := nI_of hx0
    have hj2 : 2 ≤ j := Classical.byContradiction fun q => h2 (nI_lt (b := 2) (by omega) (by decide))
    by_cases h8 : j ≤ 8
    · refine ⟨j, ⟨h8, hj2⟩, ?_, ?_⟩
      · have e1 : (if (2 : Int32) < nI j then nI j else 2) = nI j := by
          by_cases q : (2 : Int32) < nI j
          · rw [if_pos q]
          · rw [if_neg q]
            have : ¬ 2 < j := fun z => q (nI_lt (a := 2) z (by omega))
            have e : j = 2 := by omega
            subst e; rfl
        rw [e1]
        by_cases q : nI j < 8
        · rw [if_pos q]
        · rw [if_neg q]
          have : ¬ j < 8 := fun z => q (nI_lt (b := 8) z (by decide))
          have e : j = 8 := by omega
          subst e; rfl
      · rw [if_neg h2, if_pos (show nI j ≤ 8 from nI_le (b := 8) h8 (by decide))]
    · have l2 : (2 : Int32) < nI j := nI_lt (a := 2) (by omega) (by omega)
      refine ⟨8, by decide, ?_, ?_⟩
      · rw [if_pos l2, if_neg (show ¬ nI j < 8 from nI_nlt (b := 8) (by omega) (by omega))]; rfl
      · rw [if_neg h2, if_neg (show ¬ nI j ≤ 8 from nI_ge (a := 8) (by omega) (by omega))]; rfl
/-- when the law's loop ends -/
theorem hd_gt {L k : Nat} (hL : L ≤ 2049) (hk : k ≤ 512) : nI L - 4 < nI (1 + 4 * k) ↔ L < 5 + 4 * k := by
  by_cases h : 4 ≤ L
  · have e : nI L - 4 = nI (L - 4) := by
      have e2 : nI L = nI (L - 4) + 4 := by
        have := nI_add (L - 4) 4
        rw [show L - 4 + 4 = L by omega] at this
        exact this.symm
      rw [e2, Int32.add_sub_cancel]
    rw [e, nI_ltI (by omega) (by omega)]; omega
  · refine ⟨fun _ => by omega, fun _ => ?_⟩
    have h1 : nI L - 4 < nI 0 := by
      rcases (by omega : L = 0 ∨ L = 1 ∨ L = 2 ∨ L = 3) with rfl | rfl | rfl | rfl <;> decide
    exact Int32.lt_trans h1 (nI_lt (by omega) (by omega))
/-! what the tables say of classes and arrays -/
theorem g_kc {args : Array Value} {s : State} (hts : ∀ w ∈ gTb, w.before args s = true) {own : String} {index ci : Nat} (h : gLc own index ci) : ∃ r : ClassId × (Nat → Nat), ∀ q, gCl[ci]? = some q → u_Kn s q.1 q.2.1 q.2.2 r.1 r.2 := by
  obtain ⟨C, T, N, ty0, hc, hN, hu, hty, hdv, hlk, hins, hini⟩ := h
  obtain ⟨cC, iS, hk⟩ := u_known hts hu (hts _ hins)
  refine ⟨(cC, iS), fun q hq => ?_⟩
  rw [hc] at hq
  cases hq
  exact hk
theorem g_kcs {args : Array Value} {s : State} (hts : ∀ w ∈ gTb, w.before args s = true) : ∀ c : Nat, ∃ r : ClassId × (Nat → Nat), ∀ q, gCl[c]? = some q → u_Kn s q.1 q.2.1 q.2.2 r.1 r.2
  | 0 => g_kc hts qc_N_28
  | 1 => g_kc hts qc_G_22
  | 2 => g_kc hts qc_F_9
  | 3 => g_kc hts qc_G_33
  | 4 => g_kc hts qc_N_11
  | 5 => g_kc hts qc_L_7
  | 6 => g_kc hts qc_L_18
  | c + 7 => by
    obtain ⟨r, -⟩ := g_kc hts qc_N_28
    exact ⟨r, fun q hq => by
      have := (List.getElem?_eq_some_iff.mp hq).1
      exact absurd this (by show ¬ c + 7 < 7; omega)⟩
theorem g_ka {args : Array Value} {s : State} {ty : FieldType} (h : (Cond.arrayClass ty).before args s = true) : ∃ cA, ArrOfT s cA ty ∧ s.vm.findClass ("[" ++ ty.toString) = some cA := by
  obtain ⟨cA, kA, comp, h1, h2, h3⟩ := Cond.arrayClass_spec h
  exact ⟨cA, fun N z => ⟨fun k q => (by cases q), kA, h2, comp, h3⟩, h1⟩
theorem g_ko {s : State} {C : String} (h : va_AO C s) : ∃ cA, ArrOfT s cA (.object C) ∧ va_RA s cA (.object C) := by
  obtain ⟨comp, cA, kA, h1, -, h3, h4, h5⟩ := Cond.arrayOver_spec h
  exact ⟨cA, fun N z => ⟨fun k q => (by cases q), kA, h3, comp, h4⟩, kA, comp, h3, h4, h1, h5⟩
theorem g_kts {args : Array Value} {s : State} (hts : ∀ w ∈ gTb, w.before args s = true) (hnx : gNx s) : ∀ t : Nat, ∃ cA, ArrOfT s cA (gTy t) ∧ va_RA s cA (gTy t)
  | 0 => g_ka (hts _ qr_int)
  | 1 => g_ka (hts _ qr_boolean)
  | 2 => g_ko hnx.1.2.2.1
  | 3 => g_ko hnx.1.2.1
  | 4 => g_ko hnx.1.1
  | t + 5 => g_ko hnx.1.2.2.2
theorem g_known {args : Array Value} {s : State} (hts : ∀ w ∈ gTb, w.before args s = true) (hnx : gNx s) : ∃ (cA : Nat → ClassId) (D : va_G), va_K D gCl ((List.range gNt).map (fun t => (cA t, gTy t))) s := by
  obtain ⟨f, hf⟩ := Classical.axiomOfChoice (g_kcs hts)
  obtain ⟨cA, hA⟩ := Classical.axiomOfChoice (g_kts hts hnx)
  refine ⟨cA, (fun c => (f c).1, fun c => (f c).2), fun c q hq => hf c q hq, fun k q hq => ?_⟩
  rw [List.getElem?_map] at hq
  cases hk : (List.range gNt)[k]? with
  | none => rw [hk] at hq; cases hq
  | some t =>
    rw [hk] at hq
    cases hq
    exact hA t
