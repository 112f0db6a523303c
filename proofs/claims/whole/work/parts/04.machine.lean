/-! A small machine over named cells: the rows of the kit, once for all methods. -/
/-- a value of the small machine, as the machine has it -/
def gRv (G : gG) (r : Option gK) : Value := va_rf (r.map (gAd G))
def gc (G : gG) (v : gV) : Value := match v with
  | .inl x => .int x
  | .inr r => gRv G r
def gFs (G : gG) (S : gS) (k : gK) (ci : Nat) : List Value := (List.range (gNf ci)).map (fun f => if gRf ci f then gRv G (S.2 k f) else .int (S.1 k f))
def gAr (G : gG) (S : gS) (k : gK) (t : Nat) : (Nat → Int32) ⊕ (Nat → Int64) ⊕ (Nat → UInt32) ⊕ (Nat → UInt64) ⊕ (Nat → Option Nat) :=
  if t < 2 then .inl (S.1 k) else .inr (.inr (.inr (.inr (fun j => (S.2 k j).map (gAd G)))))
def gE (G : gG) (S : gS) (k : gK) : va_E := match gSh G.1 k with
  | .inl ci => .inr (ci, gFs G S k ci)
  | .inr q => .inl (G.2.2.1 q.1, q.2, gAr G S k q.1)
def gKs (G : gG) (t : Nat) : List gK := (gOrd G.1).take t
def gW (G : gG) (t : Nat) (S : gS) : va_W := (gKs G t).map (fun k => (gAd G k, gE G S k))
def gA (G : gG) : Nat → Prop := fun q => G.2.1 ≤ q
def gTys (G : gG) : List (ClassId × FieldType) := (List.range gNt).map (fun t => (G.2.2.1 t, gTy t))
def gP (G : gG) (t : Nat) (S : gS) (H : Heap) : Prop := va_P G.2.2.2 gCl (gW G t S) H ∧ H.size = G.2.1 + t
def gKn (G : gG) (U : State) : Prop := va_K G.2.2.2 gCl (gTys G) U ∧ (gOrd G.1).Nodup
/-- locals: what is known of them; 'none' is anything -/
def gL (G : gG) (ls : Array Slot) (lv : List (Option gV)) : Prop := ls.size = lv.length ∧ lv_wf ls ∧ ∀ (i : Nat) (v : gV), lv[i]? = some (some v) → ls[i]? = some (.val (gc G v))
/-- one field, one element -/
def gI (S : gS) (k : gK) (f : Nat) (v : Int32) : gS := (fun k' f' => if k' = k ∧ f' = f then v else S.1 k' f', S.2)
def gX (S : gS) (k : gK) (f : Nat) (r : Option gK) : gS := (S.1, fun k' f' => if k' = k ∧ f' = f then r else S.2 k' f')
abbrev gEnv : Type := Program × Launch × Env × Room × State × MethodId × Array Value × List Frame × Method × Code
def gC (G : gG) (E : gEnv) (cc : ByteArray) (nL : Nat) (own : String) (d : Nat) : Prop :=
  E.1.tables.exec = Jvm.exec ∧ E.2.2.2.2.2.2.2.2.2.code = cc ∧ E.2.2.2.2.2.2.2.2.2.maxLocals = nL ∧ E.2.2.2.2.1.vm.findClass own = some E.2.2.2.2.2.1.cls ∧
  (∀ w ∈ gTb, w.before E.2.2.2.2.2.2.1 E.2.2.2.2.1 = true) ∧ gKn G E.2.2.2.2.1 ∧ d ≤ E.2.2.2.1.frames ∧ 40 * d ≤ E.2.2.2.1.locals ∧ E.2.2.2.2.2.2.2.2.1.locks = false
def gZ (G : gG) (E : gEnv) (cells slots : Nat) (Q : State → Prop) (t pc : Nat) (lv : List (Option gV)) (st : List gV) (S : gS) : Prop :=
  ∀ (ls : Array Slot) (H : Heap) (locs : List Loc), gL G ls lv → gP G t S H → va_S (gA G) E.2.2.2.2.1.heap H locs →
    W E.1 E.2.1 E.2.2.1 E.2.2.2.1 E.2.2.2.2.1 E.2.2.2.2.2.1 E.2.2.2.2.2.2.1 E.2.2.2.2.2.2.2.1 E.2.2.2.2.2.2.2.2.1 E.2.2.2.2.2.2.2.2.2 H locs cells slots Q (F0 E.2.2.2.2.2.1 pc ls (st.map (gc G)))
/-- how a method ends -/
def gQ (G : gG) (t : Nat) (Rt : Option gV → gS → Prop) : Array Value → State → Outcome → State → Prop := fun _ st oc u =>
  (∃ (v : Option gV) (S : gS), oc = .returned (v.map (gc G)) ∧ Rt v S ∧ gP G t S u.heap) ∧ va_F (gA G) st u
abbrev gEnd (G : gG) (E : gEnv) (mc ms t : Nat) (Rt : Option gV → gS → Prop) : State → Prop := MQ E.2.2.2.2.2.2.2.1 (gQ G t Rt) E.2.2.2.2.2.2.1 E.2.2.2.2.1 mc ms (gA G)
def gPc (G : gG) (t : Nat) (av : List gV) (S : gS) : Array Value → State → Prop := fun a U => a = (av.map (gc G)).toArray ∧ gP G t S U.heap ∧ gKn G U
/-- a contract: from S, with these arguments, the method answers and leaves as Rt says -/
def gM (G : gG) (l : Launch) (y : MethodName) (ws : List Cond) (d mc ms t t' : Nat) (av : List gV) (S : gS) (Rt : Option gV → gS → Prop) : Prop :=
  Met l y ws { frames := d, cells := mc, slots := ms, locals := 40 * d } (gPc G t av S) (gQ G t' Rt) mc ms (gA G)
theorem gc_cat (G : gG) (v : gV) : (gc G v).category = 1 := by
  rcases v with x | r
  · rfl
  · cases r <;> rfl
theorem gRv_some (G : gG) (k : gK) : gRv G (some k) = .ref (gAd G k) := rfl
theorem gKn.moved {G : gG} {u U : State} (hvm : u.vm.Alike U.vm) (h : gKn G u) : gKn G U := ⟨va_K.moved hvm h.1, h.2⟩
/-! addresses -/
theorem gKs_mem {G : gG} {t : Nat} {k : gK} (h : k ∈ gKs G t) : k ∈ gOrd G.1 := List.mem_of_mem_take h
theorem gAd_inj {G : gG} {a b : gK} (ha : a ∈ gOrd G.1) (hb : b ∈ gOrd G.1) (h : gAd G a = gAd G b) : a = b := by
  have h1 : (gOrd G.1).idxOf a = (gOrd G.1).idxOf b := by unfold gAd at h; rw [if_pos ha, if_pos hb] at h; omega
  have ea : (gOrd G.1)[(gOrd G.1).idxOf a]'(List.idxOf_lt_length_of_mem ha) = a := List.getElem_idxOf _
  have eb : (gOrd G.1)[(gOrd G.1).idxOf b]'(List.idxOf_lt_length_of_mem hb) = b := List.getElem_idxOf _
  rw [← ea, ← eb]
  congr 1
theorem gW_get {G : gG} {t : Nat} {S : gS} {k : gK} (h : k ∈ gKs G t) : ∃ i : Nat, (gKs G t)[i]? = some k ∧ (gW G t S)[i]? = some (gAd G k, gE G S k) := by
  obtain ⟨i, hi⟩ := List.getElem?_of_mem h
  exact ⟨i, hi, by rw [gW, List.getElem?_map, hi]; rfl⟩
theorem gW_set {G : gG} {t i : Nat} {S S' : gS} {k : gK} (hn : (gOrd G.1).Nodup) (hi : (gKs G t)[i]? = some k) (ho : ∀ k', k' ≠ k → gE G S' k' = gE G S k') : (gW G t S).set i (gAd G k, gE G S' k) = gW G t S' := by
  have hnd : (gKs G t).Nodup := List.Nodup.sublist (List.take_sublist _ _) hn
  have hl := (List.getElem?_eq_some_iff.mp hi).1
  apply List.ext_getElem?
  intro j
  by_cases hj : j = i
  · subst hj
    rw [List.getElem?_set_self (by rw [gW, List.length_map]; exact hl), gW, List.getElem?_map, hi]; rfl
  · rw [List.getElem?_set_ne (Ne.symm hj)]
    simp only [gW, List.getElem?_map]
    cases hb : (gKs G t)[j]? with
    | none => rfl
    | some b =>
      have hbk : b ≠ k := by
        intro e
        subst e
        exact hj ((List.getElem?_inj (List.getElem?_eq_some_iff.mp hb).1 hnd).mp (hb.trans hi.symm))
      simp only [Option.map_some]
      rw [ho b hbk]
theorem gD {G : gG} {t : Nat} {S : gS} (hn : (gOrd G.1).Nodup) : va_D (gA G) (gW G t S) := by
  have hnd : (gKs G t).Nodup := List.Nodup.sublist (List.take_sublist _ _) hn
  refine ⟨fun i j x y hi hj hxy => ?_, fun k q hk => ?_⟩
  · simp only [gW, List.getElem?_map] at hi hj
    cases ha : (gKs G t)[i]? with
    | none => rw [ha] at hi; cases hi
    | some a =>
      cases hb : (gKs G t)[j]? with
      | none => rw [hb] at hj; cases hj
      | some b =>
        rw [ha] at hi; rw [hb] at hj
        cases hi; cases hj
        have e := gAd_inj (gKs_mem (List.mem_of_getElem? ha)) (gKs_mem (List.mem_of_getElem? hb)) hxy
        subst e
        exact (List.getElem?_inj (List.getElem?_eq_some_iff.mp ha).1 hnd).mp (ha.trans hb.symm)
  · simp only [gW, List.getElem?_map] at hk
    cases ha : (gKs G t)[k]? with
    | none => rw [ha] at hk; cases hk
    | some a =>
      rw [ha] at hk
      cases hk
      show G.2.1 ≤ gAd G a
      unfold gAd
      rw [if_pos (gKs_mem (List.mem_of_getElem? ha))]
      omega
theorem gTys_at {G : gG} {t : Nat} (h : t < gNt) : (gTys G)[t]? = some (G.2.2.1 t, gTy t) := by
  rw [gTys, List.getElem?_map, List.getElem?_range h]; rfl
theorem gFs_at {G : gG} {S : gS} {k : gK} {ci f : Nat} (h : f < gNf ci) : (gFs G S k ci)[f]? = some (if gRf ci f then gRv G (S.2 k f) else .int (S.1 k f)) := by
  rw [gFs, List.getElem?_map, List.getElem?_range h]; rfl
theorem gFs_len {G : gG} {S : gS} {k : gK} {ci : Nat} : (gFs G S k ci).length = gNf ci := by simp [gFs]
theorem gE_obj {G : gG} {S : gS} {k : gK} {ci : Nat} (h : gSh G.1 k = .inl ci) : gE G S k = .inr (ci, gFs G S k ci) := by unfold gE; rw [h]
theorem gE_arr {G : gG} {S : gS} {k : gK} {t n : Nat} (h : gSh G.1 k = .inr (t, n)) : gE G S k = .inl (G.2.2.1 t, n, gAr G S k t) := by unfold gE; rw [h]
theorem gE_I {G : gG} {S : gS} {k k' : gK} {f : Nat} {v : Int32} (h : k' ≠ k) : gE G (gI S k f v) k' = gE G S k' := by
  have e1 : ∀ j, (gI S k f v).1 k' j = S.1 k' j := fun j => by simp [gI, h]
  have e2 : (gI S k f v).1 k' = S.1 k' := funext e1
  unfold gE gFs gAr
  simp only [e2]
  rfl
theorem gE_X {G : gG} {S : gS} {k k' : gK} {f : Nat} {r : Option gK} (h : k' ≠ k) : gE G (gX S k f r) k' = gE G S k' := by
  have e1 : ∀ j, (gX S k f r).2 k' j = S.2 k' j := fun j => by simp [gX, h]
  have e2 : (gX S k f r).2 k' = S.2 k' := funext e1
  unfold gE gFs gAr
  simp only [e2]
  rfl
/-! locals -/
def gPr (G : gG) (lv : List (Option gV)) : List (Nat × Value) := (List.range lv.length).filterMap (fun i => match lv[i]? with
  | some (some v) => some (i, gc G v)
  | _ => none)
theorem gPr_mem {G : gG} {lv : List (Option gV)} {i : Nat} {v : gV} (h : lv[i]? = some (some v)) : (i, gc G v) ∈ gPr G lv := by
  unfold gPr
  refine List.mem_filterMap.mpr ⟨i, List.mem_range.mpr (List.getElem?_eq_some_iff.mp h).1, ?_⟩
  rw [h]
theorem gL.has {G : gG} {ls : Array Slot} {lv : List (Option gV)} (h : gL G ls lv) : lv_has ls lv.length (gPr G lv) := by
  refine ⟨h.1, h.2.1, fun q hq => ?_⟩
  obtain ⟨i, -, hi⟩ := List.mem_filterMap.mp hq
  split at hi
  next v hv => cases hi; exact h.2.2 i v hv
  next => cases hi
theorem gL.store {G : gG} {ls' : Array Slot} {lv : List (Option gV)} {i : Nat} {v : gV} (h : lv_has ls' lv.length ((i, gc G v) :: (gPr G lv).filter (fun q => !(q.1 == i) && !(q.1 + 1 == i && q.2.category == 2)))) : gL G ls' (lv.set i (some v)) := by
  refine ⟨by rw [List.length_set]; exact h.1, h.2.1, fun j w hj => ?_⟩
  by_cases hji : j = i
  · subst hji
    have hl : j < lv.length := by
      have := (List.getElem?_eq_some_iff.mp hj).1
      rw [List.length_set] at this
      exact this
    rw [List.getElem?_set_self hl] at hj
    cases hj
    exact h.2.2 (j, gc G v) List.mem_cons_self
  · rw [List.getElem?_set_ne (Ne.symm hji)] at hj
    refine h.2.2 (j, gc G w) (List.mem_cons_of_mem _ (List.mem_filter.mpr ⟨gPr_mem hj, ?_⟩))
    simp [hji, gc_cat]
theorem gL.weak {G : gG} {ls : Array Slot} {lv lv' : List (Option gV)} (h : gL G ls lv) (hl : lv'.length = lv.length) (hw : ∀ (i : Nat) (v : gV), lv'[i]? = some (some v) → lv[i]? = some (some v)) : gL G ls lv' := ⟨by rw [hl]; exact h.1, h.2.1, fun i v hv => h.2.2 i v (hw i v hv)⟩
/-- lv' knows no more than lv -/
def gLe : List (Option gV) → List (Option gV) → Prop
  | [], [] => True
  | none :: a, _ :: b => gLe a b
  | some v :: a, w :: b => w = some v ∧ gLe a b
  | _, _ => False
theorem gLe.spec : ∀ {a b : List (Option gV)}, gLe a b → a.length = b.length ∧ ∀ (i : Nat) (v : gV), a[i]? = some (some v) → b[i]? = some (some v)
  | [], [], _ => ⟨rfl, fun i v h => by simp at h⟩
  | [], _ :: _, h => by simp [gLe] at h
  | _ :: _, [], h => by rename_i x y; cases x <;> simp [gLe] at h
  | none :: a, w :: b, h => by
    obtain ⟨h1, h2⟩ := gLe.spec (a := a) (b := b) (by simpa [gLe] using h)
    refine ⟨by simp [h1], fun i v hv => ?_⟩
    cases i with
    | zero => simp at hv
    | succ i => simpa using h2 i v (by simpa using hv)
  | some x :: a, w :: b, h => by
    have h' : w = some x ∧ gLe a b := by simpa [gLe] using h
    obtain ⟨h1, h2⟩ := gLe.spec (a := a) (b := b) h'.2
    refine ⟨by simp [h1], fun i v hv => ?_⟩
    cases i with
    | zero => rw [h'.1]; simpa using hv
    | succ i => simpa using h2 i v (by simpa using hv)
/-! what an instruction that names a field rests on -/
def gLk (own : String) (index ci f : Nat) : Prop := ∃ (C : String) (T : u_T) (N : Nat), gCl[ci]? = some (C, T, N) ∧ gNf ci = N ∧ f < N ∧ (∀ w ∈ u_ws C T N, w ∈ gTb) ∧ Cond.fieldLink own index (T f).1 (T f).2.1 (T f).2.2.1 ∈ gTb
/-- and of what type it is, and that names differ; final or not -/
def gLp (own : String) (index ci f : Nat) (ty : FieldType) (fin : Bool) : Prop := ∃ (C : String) (T : u_T) (N : Nat) (ty0 : Nat → FieldType), gCl[ci]? = some (C, T, N) ∧ gNf ci = N ∧ f < N ∧ (∀ w ∈ u_ws C T N, w ∈ gTb) ∧ Cond.fieldLink own index (T f).1 (T f).2.1 (T f).2.2.1 ∈ gTb ∧
  (∀ k, k < N → parseFieldDescriptor (T k).2.2.1 = some (ty0 k)) ∧ (∀ a, a < N → ∀ b, b < N → a ≠ b → (T a).2.1 ≠ (T b).2.1) ∧ ty0 f = ty ∧ (T f).2.2.2 = fin ∧ (fin = true → (T f).1 = own)
section GP
variable {p : Program} {l : Launch} {e : Env} {R : Room} {s : State} {m : MethodId} {args : Array Value} {below : List Frame} {meth : Method} {c : Code} {H : Heap} {locs : List Loc} {cells slots : Nat} {Q : State → Prop}
variable {cc : ByteArray} {pc : Nat} {ls : Array Slot} {rest : List Value} {D : va_G} {A : Nat → Prop} {a : Nat} {tys : List (ClassId × FieldType)} {ws : va_W} {H0 : Heap}
/-- a store into a field, with the heap's size -/
theorem g_put (hexec : p.tables.exec = Jvm.exec) (hb : c.code = cc) {own : String} {index ci f : Nat} {fin : Bool} {ty : FieldType} (hlp : gLp own index ci f ty fin) (hfin : fin = true → meth.name = "<init>") (hts : ∀ w ∈ gTb, w.before args s = true) (hown : s.vm.findClass own = some m.cls) (hK : va_K D gCl tys s) (hP : va_P D gCl ws H) (hD : va_D A ws) (hS0 : va_S A H0 H locs) (q0 : Nat) {fs : List Value} (he : ws[q0]? = some (a, .inr (ci, fs)))
    {v : Value} (hn : narrow ty v = v) (hfit : fits ty v = true) (hl : fs.length = gNf ci) (hdg : decode cc pc = .ok (.putfield index, 3))
    (kk : ∀ (H1 : Heap) (locs1 : List Loc), va_P D gCl (ws.set q0 (a, .inr (ci, fs.set f v))) H1 → H1.size = H.size → va_S A H0 H1 locs1 → W p l e R s m args below meth c H1 locs1 cells slots Q (F0 m (pc + 3) ls rest)) : W p l e R s m args below meth c H locs cells slots Q (F0 m pc ls (v :: .ref a :: rest)) := by
  obtain ⟨C, T, N, ty0, hc, hN, hf, hu, hw, hty, hnm, hty1, hfi, hdecl⟩ := hlp
  have hd : parseFieldDescriptor (T f).2.2.1 = some ty := by rw [hty f hf, hty1]
  have hap := va_apart (own := own) hts hu ty0 hty hnm hK hc
  obtain ⟨r, h1, cell, q1, q2, q3, q4⟩ := hP q0 _ he
  have hr : r = (C, T, N) := Option.some.inj (h1.symm.trans hc)
  subst hr
  obtain ⟨hS, hfc, kC, hkC, hkind⟩ := hK.1 ci _ hc
  obtain ⟨cf, kf, fi, fd, hi, hsl⟩ := hS f hf
  have hst := (u_facts hfc hkC (u_lays hts hu hf) hi).1
  have hgo : ∀ H' : Heap, H'[a]? = some (cell.setSlot fd.slot v) → H'.size = H.size → (∀ q, q ≠ a → H'[q]? = H[q]?) → W p l e R s m args below meth c H' (locs ++ [⟨a, fd.slot⟩]) cells slots Q (F0 m (pc + 3) ls rest) := by
    intro H' e1 e2 e3
    rw [hsl] at e1 ⊢
    exact kk H' _ (hP.set hD he ⟨_, hc, t_OB.to (V := updV (vp_V fs) f v) ⟨_, e1, q2, q3, t_set q4 hap hf v⟩ (fun j _ => vp_updV_set (by rw [hl, hN]; exact hf) v j)⟩ e3) e2 (hS0.put e2 e3 (hD.2 q0 _ he))
  have hlt : fd.slot < cell.slots.size := by rw [hsl]; exact k2_hasslot (q4 f hf)
  have hlay := hts _ (hu _ (u_in_lay hf))
  unfold u_lay at hlay
  cases fin with
  | false =>
    rw [if_neg (by rw [hfi]; decide)] at hlay
    have h6 := u_store hfc hkC hkind hlay hi hd hn hfit
    exact W.putK hexec hb (f := fd) ⟨hown, hts _ hw, ⟨_, _, _, hi⟩, hst⟩ (by rw [q2]; exact h6) q1 q3 hlt rfl rfl hdg hgo
  | true =>
    rw [if_pos hfi] at hlay
    have hcf : m.cls = cf := by
      obtain ⟨_, _, c', _, _, _, -, -, hf', -, -, -, hown2, -⟩ := Cond.laysFinal_spec hlay
      have e1 : c' = cf := by have := hi.symm.trans hf'; simp at this; exact this.1.symm
      rw [hdecl rfl] at hown2
      rw [← e1]; exact Option.some.inj (hown.symm.trans hown2)
    have h6 := u_fits hfc hkC hkind (Or.inr hlay) hi hd hn hfit
    exact W.putFinK hexec hb hown (hts _ hw) hi hst hcf (hfin rfl) (by rw [q2]; exact h6) q1 q3 hlt rfl rfl hdg hgo
/-- stores into arrays, with the heap's size -/
theorem g_iast (hexec : p.tables.exec = Jvm.exec) (hb : c.code = cc) (hK : va_K D gCl tys s) (hP : va_P D gCl ws H) (hD : va_D A ws) (hS : va_S A H0 H locs) (q0 t0 : Nat) {cA : ClassId} {n : Nat} {f : Nat → Int32} (ha : ws[q0]? = some (a, .inl (cA, n, .inl f))) (ht : tys[t0]? = some (cA, .int)) {i : Int32} {x : Int32} (hin : vp_in i n) (hdg : decode cc pc = .ok (.iastore, 1))
    (kk : ∀ (H1 : Heap) (locs1 : List Loc), va_P D gCl (ws.set q0 (a, .inl (cA, n, .inl (upd f i.toNatClampNeg x)))) H1 → H1.size = H.size → va_S A H0 H1 locs1 → W p l e R s m args below meth c H1 locs1 cells slots Q (F0 m (pc + 1) ls rest)) : W p l e R s m args below meth c H locs cells slots Q (F0 m pc ls (.int x :: .int i :: .ref a :: rest)) := by
  refine W.iast hexec hb (hP q0 _ ha) ((hK.2 t0 _ ht).1 n (fun j => .int (f j))) (fun q => by cases q) (by show ¬ (i < 0 ∨ (arrV _ _ _).slots.size ≤ _); rw [arrV_size]; exact hin) rfl rfl hdg fun H1 e z oq => ?_
  refine kk H1 _ (hP.set hD ha ?_ oq) z (hS.put z oq (hD.2 q0 _ ha))
  show H1[a]? = some (vp_cell _ _)
  rw [e, vp_cell_i, vp_cell_i, arrV_store]
  congr 2
  funext q
  by_cases hq : q = i.toNatClampNeg
  · subst hq
    simp [updV, upd]
  · simp [updV, upd, hq]
theorem g_zast (hexec : p.tables.exec = Jvm.exec) (hb : c.code = cc) (hK : va_K D gCl tys s) (hP : va_P D gCl ws H) (hD : va_D A ws) (hS : va_S A H0 H locs) (q0 t0 : Nat) {cA : ClassId} {n : Nat} {f : Nat → Int32} (ha : ws[q0]? = some (a, .inl (cA, n, .inl f))) (ht : tys[t0]? = some (cA, .boolean)) {i : Int32} {x : Int32} (hx : narrow .boolean (.int x) = .int x) (hin : vp_in i n) (hdg : decode cc pc = .ok (.bastore, 1))
    (kk : ∀ (H1 : Heap) (locs1 : List Loc), va_P D gCl (ws.set q0 (a, .inl (cA, n, .inl (upd f i.toNatClampNeg x)))) H1 → H1.size = H.size → va_S A H0 H1 locs1 → W p l e R s m args below meth c H1 locs1 cells slots Q (F0 m (pc + 1) ls rest)) : W p l e R s m args below meth c H locs cells slots Q (F0 m pc ls (.int x :: .int i :: .ref a :: rest)) := by
  refine W.zast hexec hb (hP q0 _ ha) ((hK.2 t0 _ ht).1 n (fun j => .int (f j))) (fun q => by cases q) (by show ¬ (i < 0 ∨ (arrV _ _ _).slots.size ≤ _); rw [arrV_size]; exact hin) rfl rfl hdg fun H1 e z oq => ?_
  refine kk H1 _ (hP.set hD ha ?_ oq) z (hS.put z oq (hD.2 q0 _ ha))
  show H1[a]? = some (vp_cell _ _)
  rw [e, hx, vp_cell_i, vp_cell_i, arrV_store]
  congr 2
  funext q
  by_cases hq : q = i.toNatClampNeg
  · subst hq
    simp [updV, upd]
  · simp [updV, upd, hq]
theorem g_aast (hexec : p.tables.exec = Jvm.exec) (hb : c.code = cc) (hK : va_K D gCl tys s) (hP : va_P D gCl ws H) (hD : va_D A ws) (hS : va_S A H0 H locs) (q0 t0 qk ci : Nat) {cA : ClassId} {r : vw_C} {n v : Nat} {vs : List Value} {f : Nat → Option Nat} (ha : ws[q0]? = some (a, .inl (cA, n, .inr (.inr (.inr (.inr f)))))) (ht : tys[t0]? = some (cA, .object r.1)) (hv : ws[qk]? = some (v, .inr (ci, vs))) (hc : gCl[ci]? = some r) {i : Int32} (hin : vp_in i n) (hdg : decode cc pc = .ok (.aastore, 1))
    (kk : ∀ (H1 : Heap) (locs1 : List Loc), va_P D gCl (ws.set q0 (a, .inl (cA, n, .inr (.inr (.inr (.inr (va_up f i.toNatClampNeg (some v)))))))) H1 → H1.size = H.size → va_S A H0 H1 locs1 → W p l e R s m args below meth c H1 locs1 cells slots Q (F0 m (pc + 1) ls rest)) : W p l e R s m args below meth c H locs cells slots Q (F0 m pc ls (.ref v :: .int i :: .ref a :: rest)) := by
  have hlt : i.toNatClampNeg < n := Nat.not_le.mp fun q => hin (Or.inr q)
  have h0 : ¬ i < 0 := fun q => hin (Or.inl q)
  obtain ⟨r', hr', cellV, g1, g2, g3, -⟩ := hP qk _ hv
  have hcls := (hK.1 ci r hc).2
  obtain ⟨kA, comp, k1, k2, k3, -⟩ := (hK.2 t0 _ ht).2
  have hcomp : comp = D.1 ci := Option.some.inj (k3.symm.trans hcls.1)
  subst hcomp
  obtain ⟨kC, hkC, -⟩ := hcls.2
  refine W.aast hexec hb (hP q0 _ ha) (fun q h => by cases h) (fun h => by cases h) k1 k2 rfl hkC ⟨h0, by show _ < (arrV _ _ _).slots.size; rw [arrV_size]; exact hlt⟩ g1 (fun q h => by rw [g3] at h; cases h) (by rw [g2]; exact hkC) (by rw [g2]; exact va_assign hcls) rfl rfl hdg fun H1 e z oq => ?_
  refine kk H1 _ (hP.set hD ha ?_ oq) z (hS.put z oq (hD.2 q0 _ ha))
  show H1[a]? = some (vp_cell _ _)
  rw [e, vp_cell_q, vp_cell_q, arrV_store]
  congr 2
  funext q
  by_cases hq : q = i.toNatClampNeg
  · subst hq
    simp [updV, va_up, va_rf]
  · simp [updV, va_up, hq]
end GP
section GZ
variable {G : gG} {E : gEnv} {cells slots : Nat} {Q : State → Prop} {t pc : Nat} {lv : List (Option gV)} {st : List gV} {S : gS} {cc : ByteArray} {nL : Nat} {own : String} {d : Nat}
theorem gz_iconst (cx : gC G E cc nL own d) {n : Int} {v : Int32} (hd : decode cc pc = .ok (.iconst n, 1)) (hv : Int32.ofInt n = v) (k : gZ G E cells slots Q t (pc + 1) lv (.inl v :: st) S) : gZ G E cells slots Q t pc lv (st) S :=
  fun ls H locs hl hP hS => lv_iconst cx.1 cx.2.1 hd hv (k ls H locs hl hP hS)
theorem gz_bipush (cx : gC G E cc nL own d) {n : Int} {v : Int32} (hd : decode cc pc = .ok (.bipush n, 2)) (hv : (Int8.ofInt n).toInt32 = v) (k : gZ G E cells slots Q t (pc + 2) lv (.inl v :: st) S) : gZ G E cells slots Q t pc lv (st) S :=
  fun ls H locs hl hP hS => lv_bipush cx.1 cx.2.1 hd hv (k ls H locs hl hP hS)
theorem gz_sipush (cx : gC G E cc nL own d) {n : Int} {v : Int32} (hd : decode cc pc = .ok (.sipush n, 3)) (hv : (Int16.ofInt n).toInt32 = v) (k : gZ G E cells slots Q t (pc + 3) lv (.inl v :: st) S) : gZ G E cells slots Q t pc lv (st) S :=
  fun ls H locs hl hP hS => lv_sipush cx.1 cx.2.1 hd hv (k ls H locs hl hP hS)
theorem gz_iload_n (cx : gC G E cc nL own d) {k : Fin 4} {i : Nat} {x : Int32} (hd : decode cc pc = .ok (.iload_n k, 1)) (hi : (k : Nat) = i) (hx : lv[i]? = some (some (.inl x))) (k : gZ G E cells slots Q t (pc + 1) lv (.inl x :: st) S) : gZ G E cells slots Q t pc lv (st) S :=
  fun ls H locs hl hP hS => lv_iload_n cx.1 cx.2.1 hd hi (hl.2.2 _ _ hx) (k ls H locs hl hP hS)
theorem gz_iload (cx : gC G E cc nL own d) {i : Nat} {x : Int32} (hd : decode cc pc = .ok (.iload i, 2)) (hx : lv[i]? = some (some (.inl x))) (k : gZ G E cells slots Q t (pc + 2) lv (.inl x :: st) S) : gZ G E cells slots Q t pc lv (st) S :=
  fun ls H locs hl hP hS => lv_iload cx.1 cx.2.1 hd (hl.2.2 _ _ hx) (k ls H locs hl hP hS)
theorem gz_istore_n (cx : gC G E cc nL own d) {k : Fin 4} {i : Nat} {x : Int32} (hd : decode cc pc = .ok (.istore_n k, 1)) (hi : (k : Nat) = i) (hn : i < lv.length) (k : gZ G E cells slots Q t (pc + 1) (lv.set i (some (.inl x))) (st) S) : gZ G E cells slots Q t pc lv (.inl x :: st) S :=
  fun ls H locs hl hP hS => lv_istore_n cx.1 cx.2.1 hd hi hl.has hn rfl (fun ls' h' => k ls' H locs (gL.store (v := .inl x) h') hP hS)
theorem gz_istore (cx : gC G E cc nL own d) {i : Nat} {x : Int32} (hd : decode cc pc = .ok (.istore i, 2)) (hn : i < lv.length) (k : gZ G E cells slots Q t (pc + 2) (lv.set i (some (.inl x))) (st) S) : gZ G E cells slots Q t pc lv (.inl x :: st) S :=
  fun ls H locs hl hP hS => lv_istore cx.1 cx.2.1 hd hl.has hn rfl (fun ls' h' => k ls' H locs (gL.store (v := .inl x) h') hP hS)
theorem gz_aload_n (cx : gC G E cc nL own d) {k : Fin 4} {i : Nat} {x : gK} (hd : decode cc pc = .ok (.aload_n k, 1)) (hi : (k : Nat) = i) (hx : lv[i]? = some (some (.inr (some x)))) (k : gZ G E cells slots Q t (pc + 1) lv (.inr (some x) :: st) S) : gZ G E cells slots Q t pc lv (st) S :=
  fun ls H locs hl hP hS => lv_aload_n cx.1 cx.2.1 hd hi (hl.2.2 _ _ hx) (k ls H locs hl hP hS)
theorem gz_aload (cx : gC G E cc nL own d) {i : Nat} {x : gK} (hd : decode cc pc = .ok (.aload i, 2)) (hx : lv[i]? = some (some (.inr (some x)))) (k : gZ G E cells slots Q t (pc + 2) lv (.inr (some x) :: st) S) : gZ G E cells slots Q t pc lv (st) S :=
  fun ls H locs hl hP hS => lv_aload cx.1 cx.2.1 hd (hl.2.2 _ _ hx) (k ls H locs hl hP hS)
theorem gz_astore_n (cx : gC G E cc nL own d) {k : Fin 4} {i : Nat} {x : gK} (hd : decode cc pc = .ok (.astore_n k, 1)) (hi : (k : Nat) = i) (hn : i < lv.length) (k : gZ G E cells slots Q t (pc + 1) (lv.set i (some (.inr (some x)))) (st) S) : gZ G E cells slots Q t pc lv (.inr (some x) :: st) S :=
  fun ls H locs hl hP hS => lv_astore_n cx.1 cx.2.1 hd hi hl.has hn rfl (fun ls' h' => k ls' H locs (gL.store (v := .inr (some x)) h') hP hS)
theorem gz_astore (cx : gC G E cc nL own d) {i : Nat} {x : gK} (hd : decode cc pc = .ok (.astore i, 2)) (hn : i < lv.length) (k : gZ G E cells slots Q t (pc + 2) (lv.set i (some (.inr (some x)))) (st) S) : gZ G E cells slots Q t pc lv (.inr (some x) :: st) S :=
  fun ls H locs hl hP hS => lv_astore cx.1 cx.2.1 hd hl.has hn rfl (fun ls' h' => k ls' H locs (gL.store (v := .inr (some x)) h') hP hS)
theorem gz_iinc (cx : gC G E cc nL own d) {i : Nat} {n : Int} {x v : Int32} (hd : decode cc pc = .ok (.iinc i n, 3)) (hx : lv[i]? = some (some (.inl x))) (hv : x + Int32.ofInt n = v) (k : gZ G E cells slots Q t (pc + 3) (lv.set i (some (.inl v))) st S) : gZ G E cells slots Q t pc lv st S := by
  intro ls H locs hl hP hS
  obtain ⟨j, hj⟩ := List.getElem?_of_mem (gPr_mem (G := G) hx)
  exact lv_iinc cx.1 cx.2.1 hd hl.has hj hv (List.getElem?_eq_some_iff.mp hx).1 rfl (fun ls' h' => k ls' H locs (gL.store (v := .inl v) h') hP hS)
theorem gz_iadd (cx : gC G E cc nL own d) {x y : Int32} (hd : decode cc pc = .ok (.iadd, 1)) (k : gZ G E cells slots Q t (pc + 1) lv (.inl (x + y) :: st) S) : gZ G E cells slots Q t pc lv (.inl y :: .inl x :: st) S :=
  fun ls H locs hl hP hS => lv_iadd cx.1 cx.2.1 hd (k ls H locs hl hP hS)
theorem gz_isub (cx : gC G E cc nL own d) {x y : Int32} (hd : decode cc pc = .ok (.isub, 1)) (k : gZ G E cells slots Q t (pc + 1) lv (.inl (x - y) :: st) S) : gZ G E cells slots Q t pc lv (.inl y :: .inl x :: st) S :=
  fun ls H locs hl hP hS => lv_isub cx.1 cx.2.1 hd (k ls H locs hl hP hS)
theorem gz_imul (cx : gC G E cc nL own d) {x y : Int32} (hd : decode cc pc = .ok (.imul, 1)) (k : gZ G E cells slots Q t (pc + 1) lv (.inl (x * y) :: st) S) : gZ G E cells slots Q t pc lv (.inl y :: .inl x :: st) S :=
  fun ls H locs hl hP hS => lv_imul cx.1 cx.2.1 hd (k ls H locs hl hP hS)
theorem gz_iand (cx : gC G E cc nL own d) {x y : Int32} (hd : decode cc pc = .ok (.iand, 1)) (k : gZ G E cells slots Q t (pc + 1) lv (.inl (x &&& y) :: st) S) : gZ G E cells slots Q t pc lv (.inl y :: .inl x :: st) S :=
  fun ls H locs hl hP hS => lv_iand cx.1 cx.2.1 hd (k ls H locs hl hP hS)
theorem gz_ior (cx : gC G E cc nL own d) {x y : Int32} (hd : decode cc pc = .ok (.ior, 1)) (k : gZ G E cells slots Q t (pc + 1) lv (.inl (x ||| y) :: st) S) : gZ G E cells slots Q t pc lv (.inl y :: .inl x :: st) S :=
  fun ls H locs hl hP hS => lv_ior cx.1 cx.2.1 hd (k ls H locs hl hP hS)
theorem gz_ixor (cx : gC G E cc nL own d) {x y : Int32} (hd : decode cc pc = .ok (.ixor, 1)) (k : gZ G E cells slots Q t (pc + 1) lv (.inl (x ^^^ y) :: st) S) : gZ G E cells slots Q t pc lv (.inl y :: .inl x :: st) S :=
  fun ls H locs hl hP hS => lv_ixor cx.1 cx.2.1 hd (k ls H locs hl hP hS)
theorem gz_ishl (cx : gC G E cc nL own d) {x y : Int32} (hd : decode cc pc = .ok (.ishl, 1)) (k : gZ G E cells slots Q t (pc + 1) lv (.inl (x <<< (y &&& 31)) :: st) S) : gZ G E cells slots Q t pc lv (.inl y :: .inl x :: st) S :=
  fun ls H locs hl hP hS => lv_ishl cx.1 cx.2.1 hd (k ls H locs hl hP hS)
theorem gz_ishr (cx : gC G E cc nL own d) {x y : Int32} (hd : decode cc pc = .ok (.ishr, 1)) (k : gZ G E cells slots Q t (pc + 1) lv (.inl (x >>> (y &&& 31)) :: st) S) : gZ G E cells slots Q t pc lv (.inl y :: .inl x :: st) S :=
  fun ls H locs hl hP hS => lv_ishr cx.1 cx.2.1 hd (k ls H locs hl hP hS)
theorem gz_irem (cx : gC G E cc nL own d) {x y : Int32} (hd : decode cc pc = .ok (.irem, 1)) (hne : ¬ y = 0) (k : gZ G E cells slots Q t (pc + 1) lv (.inl (x - x / y * y) :: st) S) : gZ G E cells slots Q t pc lv (.inl y :: .inl x :: st) S :=
  fun ls H locs hl hP hS => lv_irem cx.1 cx.2.1 hd hne (k ls H locs hl hP hS)
theorem gz_idiv (cx : gC G E cc nL own d) {x y : Int32} (hd : decode cc pc = .ok (.idiv, 1)) (hne : ¬ y = 0) (k : gZ G E cells slots Q t (pc + 1) lv (.inl (x / y) :: st) S) : gZ G E cells slots Q t pc lv (.inl y :: .inl x :: st) S :=
  fun ls H locs hl hP hS => lv_idiv cx.1 cx.2.1 hd hne (k ls H locs hl hP hS)
theorem gz_ineg (cx : gC G E cc nL own d) {x : Int32} (hd : decode cc pc = .ok (.ineg, 1)) (k : gZ G E cells slots Q t (pc + 1) lv (.inl (-x) :: st) S) : gZ G E cells slots Q t pc lv (.inl x :: st) S :=
  fun ls H locs hl hP hS => lv_ineg cx.1 cx.2.1 hd (k ls H locs hl hP hS)
theorem gz_iushr (cx : gC G E cc nL own d) {x y v : Int32} (hd : decode cc pc = .ok (.iushr, 1)) (hv : (x.toUInt32 >>> (y.toUInt32 &&& Int32.toUInt32 31)).toInt32 = v) (k : gZ G E cells slots Q t (pc + 1) lv (.inl v :: st) S) : gZ G E cells slots Q t pc lv (.inl y :: .inl x :: st) S :=
  fun ls H locs hl hP hS => lv_iushr cx.1 cx.2.1 hd hv (k ls H locs hl hP hS)
theorem gz_dup (cx : gC G E cc nL own d) {x : gV} (hd : decode cc pc = .ok (.dup, 1)) (k : gZ G E cells slots Q t (pc + 1) lv (x :: x :: st) S) : gZ G E cells slots Q t pc lv (x :: st) S :=
  fun ls H locs hl hP hS => lv_dup cx.1 cx.2.1 hd (gc_cat G x) (k ls H locs hl hP hS)
theorem gz_pop (cx : gC G E cc nL own d) {x : gV} (hd : decode cc pc = .ok (.pop, 1)) (k : gZ G E cells slots Q t (pc + 1) lv (st) S) : gZ G E cells slots Q t pc lv (x :: st) S :=
  fun ls H locs hl hP hS => lv_pop cx.1 cx.2.1 hd (gc_cat G x) (k ls H locs hl hP hS)
theorem gz_dup_x1 (cx : gC G E cc nL own d) {x y : gV} (hd : decode cc pc = .ok (.dup_x1, 1)) (k : gZ G E cells slots Q t (pc + 1) lv (x :: y :: x :: st) S) : gZ G E cells slots Q t pc lv (x :: y :: st) S :=
  fun ls H locs hl hP hS => lv_dup_x1 cx.1 cx.2.1 hd (gc_cat G x) (gc_cat G y) (k ls H locs hl hP hS)
theorem gz_dup_x2 (cx : gC G E cc nL own d) {x y z : gV} (hd : decode cc pc = .ok (.dup_x2, 1)) (k : gZ G E cells slots Q t (pc + 1) lv (x :: y :: z :: x :: st) S) : gZ G E cells slots Q t pc lv (x :: y :: z :: st) S :=
  fun ls H locs hl hP hS => lv_dup_x2 cx.1 cx.2.1 hd (gc_cat G x) (gc_cat G y) (gc_cat G z) (k ls H locs hl hP hS)
theorem gz_dup2 (cx : gC G E cc nL own d) {x y : gV} (hd : decode cc pc = .ok (.dup2, 1)) (k : gZ G E cells slots Q t (pc + 1) lv (x :: y :: x :: y :: st) S) : gZ G E cells slots Q t pc lv (x :: y :: st) S :=
  fun ls H locs hl hP hS => lv_dup2_11 cx.1 cx.2.1 hd (gc_cat G x) (gc_cat G y) (k ls H locs hl hP hS)
theorem gz_icmp_eq (cx : gC G E cc nL own d) {x y : Int32} {off : Int} {tgt : Nat} (hd : decode cc pc = .ok (.if_icmp .eq off, 3)) (ht : (pc : Int) + off = (tgt : Int)) (kt : x = y → gZ G E cells slots Q t tgt lv st S) (kf : ¬ (x = y) → gZ G E cells slots Q t (pc + 3) lv st S) : gZ G E cells slots Q t pc lv (.inl y :: .inl x :: st) S :=
  fun ls H locs hl hP hS => lv_icmp_eq cx.1 cx.2.1 hd ht (fun q => kt q ls H locs hl hP hS) (fun q => kf q ls H locs hl hP hS)
theorem gz_if_eq (cx : gC G E cc nL own d) {x : Int32} {off : Int} {tgt : Nat} (hd : decode cc pc = .ok (.ifCond .eq off, 3)) (ht : (pc : Int) + off = (tgt : Int)) (kt : x = 0 → gZ G E cells slots Q t tgt lv st S) (kf : ¬ (x = 0) → gZ G E cells slots Q t (pc + 3) lv st S) : gZ G E cells slots Q t pc lv (.inl x :: st) S :=
  fun ls H locs hl hP hS => lv_if_eq cx.1 cx.2.1 hd ht (fun q => kt q ls H locs hl hP hS) (fun q => kf q ls H locs hl hP hS)
theorem gz_icmp_ne (cx : gC G E cc nL own d) {x y : Int32} {off : Int} {tgt : Nat} (hd : decode cc pc = .ok (.if_icmp .ne off, 3)) (ht : (pc : Int) + off = (tgt : Int)) (kt : ¬ x = y → gZ G E cells slots Q t tgt lv st S) (kf : x = y → gZ G E cells slots Q t (pc + 3) lv st S) : gZ G E cells slots Q t pc lv (.inl y :: .inl x :: st) S :=
  fun ls H locs hl hP hS => lv_icmp_ne cx.1 cx.2.1 hd ht (fun q => kt q ls H locs hl hP hS) (fun q => kf q ls H locs hl hP hS)
theorem gz_if_ne (cx : gC G E cc nL own d) {x : Int32} {off : Int} {tgt : Nat} (hd : decode cc pc = .ok (.ifCond .ne off, 3)) (ht : (pc : Int) + off = (tgt : Int)) (kt : ¬ x = 0 → gZ G E cells slots Q t tgt lv st S) (kf : x = 0 → gZ G E cells slots Q t (pc + 3) lv st S) : gZ G E cells slots Q t pc lv (.inl x :: st) S :=
  fun ls H locs hl hP hS => lv_if_ne cx.1 cx.2.1 hd ht (fun q => kt q ls H locs hl hP hS) (fun q => kf q ls H locs hl hP hS)
theorem gz_icmp_lt (cx : gC G E cc nL own d) {x y : Int32} {off : Int} {tgt : Nat} (hd : decode cc pc = .ok (.if_icmp .lt off, 3)) (ht : (pc : Int) + off = (tgt : Int)) (kt : x < y → gZ G E cells slots Q t tgt lv st S) (kf : ¬ (x < y) → gZ G E cells slots Q t (pc + 3) lv st S) : gZ G E cells slots Q t pc lv (.inl y :: .inl x :: st) S :=
  fun ls H locs hl hP hS => lv_icmp_lt cx.1 cx.2.1 hd ht (fun q => kt q ls H locs hl hP hS) (fun q => kf q ls H locs hl hP hS)
theorem gz_if_lt (cx : gC G E cc nL own d) {x : Int32} {off : Int} {tgt : Nat} (hd : decode cc pc = .ok (.ifCond .lt off, 3)) (ht : (pc : Int) + off = (tgt : Int)) (kt : x < 0 → gZ G E cells slots Q t tgt lv st S) (kf : ¬ (x < 0) → gZ G E cells slots Q t (pc + 3) lv st S) : gZ G E cells slots Q t pc lv (.inl x :: st) S :=
  fun ls H locs hl hP hS => lv_if_lt cx.1 cx.2.1 hd ht (fun q => kt q ls H locs hl hP hS) (fun q => kf q ls H locs hl hP hS)
theorem gz_icmp_ge (cx : gC G E cc nL own d) {x y : Int32} {off : Int} {tgt : Nat} (hd : decode cc pc = .ok (.if_icmp .ge off, 3)) (ht : (pc : Int) + off = (tgt : Int)) (kt : y ≤ x → gZ G E cells slots Q t tgt lv st S) (kf : ¬ (y ≤ x) → gZ G E cells slots Q t (pc + 3) lv st S) : gZ G E cells slots Q t pc lv (.inl y :: .inl x :: st) S :=
  fun ls H locs hl hP hS => lv_icmp_ge cx.1 cx.2.1 hd ht (fun q => kt q ls H locs hl hP hS) (fun q => kf q ls H locs hl hP hS)
theorem gz_if_ge (cx : gC G E cc nL own d) {x : Int32} {off : Int} {tgt : Nat} (hd : decode cc pc = .ok (.ifCond .ge off, 3)) (ht : (pc : Int) + off = (tgt : Int)) (kt : 0 ≤ x → gZ G E cells slots Q t tgt lv st S) (kf : ¬ (0 ≤ x) → gZ G E cells slots Q t (pc + 3) lv st S) : gZ G E cells slots Q t pc lv (.inl x :: st) S :=
  fun ls H locs hl hP hS => lv_if_ge cx.1 cx.2.1 hd ht (fun q => kt q ls H locs hl hP hS) (fun q => kf q ls H locs hl hP hS)
theorem gz_icmp_gt (cx : gC G E cc nL own d) {x y : Int32} {off : Int} {tgt : Nat} (hd : decode cc pc = .ok (.if_icmp .gt off, 3)) (ht : (pc : Int) + off = (tgt : Int)) (kt : y < x → gZ G E cells slots Q t tgt lv st S) (kf : ¬ (y < x) → gZ G E cells slots Q t (pc + 3) lv st S) : gZ G E cells slots Q t pc lv (.inl y :: .inl x :: st) S :=
  fun ls H locs hl hP hS => lv_icmp_gt cx.1 cx.2.1 hd ht (fun q => kt q ls H locs hl hP hS) (fun q => kf q ls H locs hl hP hS)
theorem gz_if_gt (cx : gC G E cc nL own d) {x : Int32} {off : Int} {tgt : Nat} (hd : decode cc pc = .ok (.ifCond .gt off, 3)) (ht : (pc : Int) + off = (tgt : Int)) (kt : 0 < x → gZ G E cells slots Q t tgt lv st S) (kf : ¬ (0 < x) → gZ G E cells slots Q t (pc + 3) lv st S) : gZ G E cells slots Q t pc lv (.inl x :: st) S :=
  fun ls H locs hl hP hS => lv_if_gt cx.1 cx.2.1 hd ht (fun q => kt q ls H locs hl hP hS) (fun q => kf q ls H locs hl hP hS)
theorem gz_icmp_le (cx : gC G E cc nL own d) {x y : Int32} {off : Int} {tgt : Nat} (hd : decode cc pc = .ok (.if_icmp .le off, 3)) (ht : (pc : Int) + off = (tgt : Int)) (kt : x ≤ y → gZ G E cells slots Q t tgt lv st S) (kf : ¬ (x ≤ y) → gZ G E cells slots Q t (pc + 3) lv st S) : gZ G E cells slots Q t pc lv (.inl y :: .inl x :: st) S :=
  fun ls H locs hl hP hS => lv_icmp_le cx.1 cx.2.1 hd ht (fun q => kt q ls H locs hl hP hS) (fun q => kf q ls H locs hl hP hS)
theorem gz_if_le (cx : gC G E cc nL own d) {x : Int32} {off : Int} {tgt : Nat} (hd : decode cc pc = .ok (.ifCond .le off, 3)) (ht : (pc : Int) + off = (tgt : Int)) (kt : x ≤ 0 → gZ G E cells slots Q t tgt lv st S) (kf : ¬ (x ≤ 0) → gZ G E cells slots Q t (pc + 3) lv st S) : gZ G E cells slots Q t pc lv (.inl x :: st) S :=
  fun ls H locs hl hP hS => lv_if_le cx.1 cx.2.1 hd ht (fun q => kt q ls H locs hl hP hS) (fun q => kf q ls H locs hl hP hS)
theorem gz_goto (cx : gC G E cc nL own d) {off : Int} {tgt : Nat} (hd : decode cc pc = .ok (.goto off, 3)) (ht : (pc : Int) + off = (tgt : Int)) (k : gZ G E cells slots Q t tgt lv st S) : gZ G E cells slots Q t pc lv st S :=
  fun ls H locs hl hP hS => lv_goto cx.1 cx.2.1 hd ht (k ls H locs hl hP hS)
theorem gz_tableOut (cx : gC G E cc nL own d) {dflt lo hi : Int} {offs : Array Int} {len : Nat} {x : Int32} {tgt : Nat} (hd : decode cc pc = .ok (.tableswitch dflt lo hi offs, len)) (h : x.toInt < lo ∨ hi < x.toInt) (ht : (pc : Int) + dflt = (tgt : Int)) (k : gZ G E cells slots Q t tgt lv st S) : gZ G E cells slots Q t pc lv (.inl x :: st) S :=
  fun ls H locs hl hP hS => lv_tableOut cx.1 cx.2.1 hd h ht (k ls H locs hl hP hS)
theorem gz_tableIn (cx : gC G E cc nL own d) {dflt lo hi : Int} {offs : Array Int} {len : Nat} {x : Int32} {off : Int} {tgt : Nat} (hd : decode cc pc = .ok (.tableswitch dflt lo hi offs, len)) (h1 : ¬ x.toInt < lo) (h2 : ¬ hi < x.toInt) (ho : offs[(x.toInt - lo).toNat]? = some off) (ht : (pc : Int) + off = (tgt : Int)) (k : gZ G E cells slots Q t tgt lv st S) : gZ G E cells slots Q t pc lv (.inl x :: st) S :=
  fun ls H locs hl hP hS => lv_tableIn cx.1 cx.2.1 hd h1 h2 ho ht (k ls H locs hl hP hS)
theorem gz_weak {lv' : List (Option gV)} (h : gLe lv' lv) (k : gZ G E cells slots Q t pc lv' st S) : gZ G E cells slots Q t pc lv st S :=
  fun ls H locs hl hP hS => k ls H locs (hl.weak (gLe.spec h).1 (gLe.spec h).2) hP hS
/-! fields -/
theorem gz_getI (cx : gC G E cc nL own d) {k : gK} {index ci f : Nat} (hlk : gLk own index ci f) (hd : decode cc pc = .ok (.getfield index, 3)) (hk : k ∈ gKs G t) (hs : gSh G.1 k = .inl ci) (hr : gRf ci f = false)
    (kk : gZ G E cells slots Q t (pc + 3) lv (.inl (S.1 k f) :: st) S) : gZ G E cells slots Q t pc lv (.inr (some k) :: st) S := by
  intro ls H locs hl hP hS
  obtain ⟨C, T, N, hc, hN, hf, hu, hw⟩ := hlk
  obtain ⟨hx, hb, hml, hown, hts, hK, hfr, hlo, hsy⟩ := cx
  obtain ⟨i, hi, hg⟩ := gW_get (S := S) hk
  rw [gE_obj hs] at hg
  exact va_get (v := .int (S.1 k f)) hx hb hts hu hown hK.1 hP.1 i hg hc f hf (hts _ hw) (fun _ h => h) (by rw [gFs_at (by rw [hN]; exact hf), hr]; rfl) hd (kk ls H locs hl hP hS)
theorem gz_getR (cx : gC G E cc nL own d) {k : gK} {r : Option gK} {index ci f : Nat} (hlk : gLk own index ci f) (hd : decode cc pc = .ok (.getfield index, 3)) (hk : k ∈ gKs G t) (hs : gSh G.1 k = .inl ci) (hr : gRf ci f = true) (hv : S.2 k f = r)
    (kk : gZ G E cells slots Q t (pc + 3) lv (.inr r :: st) S) : gZ G E cells slots Q t pc lv (.inr (some k) :: st) S := by
  subst hv
  intro ls H locs hl hP hS
  obtain ⟨C, T, N, hc, hN, hf, hu, hw⟩ := hlk
  obtain ⟨hx, hb, hml, hown, hts, hK, hfr, hlo, hsy⟩ := cx
  obtain ⟨i, hi, hg⟩ := gW_get (S := S) hk
  rw [gE_obj hs] at hg
  exact va_get (v := gRv G (S.2 k f)) hx hb hts hu hown hK.1 hP.1 i hg hc f hf (hts _ hw) (fun _ h => h) (by rw [gFs_at (by rw [hN]; exact hf), hr]; rfl) hd (kk ls H locs hl hP hS)
theorem gFs_I {k : gK} {ci f : Nat} {v : Int32} (hr : gRf ci f = false) : (gFs G S k ci).set f (.int v) = gFs G (gI S k f v) k ci := by
  apply List.ext_getElem?
  intro j
  by_cases hj : j < gNf ci
  · by_cases hjf : j = f
    · subst hjf
      rw [List.getElem?_set_self (by rw [gFs_len]; exact hj), gFs_at hj, hr]
      simp [gI]
    · rw [List.getElem?_set_ne (Ne.symm hjf), gFs_at hj, gFs_at hj]
      simp [gI, hjf]
  · rw [List.getElem?_eq_none (by rw [List.length_set, gFs_len]; omega), List.getElem?_eq_none (by rw [gFs_len]; omega)]
theorem gFs_X {k : gK} {ci f : Nat} {r : Option gK} (hr : gRf ci f = true) : (gFs G S k ci).set f (gRv G r) = gFs G (gX S k f r) k ci := by
  apply List.ext_getElem?
  intro j
  by_cases hj : j < gNf ci
  · by_cases hjf : j = f
    · subst hjf
      rw [List.getElem?_set_self (by rw [gFs_len]; exact hj), gFs_at hj, hr]
      simp [gX]
    · rw [List.getElem?_set_ne (Ne.symm hjf), gFs_at hj, gFs_at hj]
      simp [gX, hjf]
  · rw [List.getElem?_eq_none (by rw [List.length_set, gFs_len]; omega), List.getElem?_eq_none (by rw [gFs_len]; omega)]
theorem gz_putI (cx : gC G E cc nL own d) {k : gK} {index ci f : Nat} {ty : FieldType} {fin : Bool} {v : Int32} (hlk : gLp own index ci f ty fin) (hd : decode cc pc = .ok (.putfield index, 3)) (hk : k ∈ gKs G t) (hs : gSh G.1 k = .inl ci) (hr : gRf ci f = false) (hty : narrow ty (.int v) = .int v ∧ fits ty (.int v) = true) (hfin : fin = true → E.2.2.2.2.2.2.2.2.1.name = "<init>")
    (kk : gZ G E cells slots Q t (pc + 3) lv st (gI S k f v)) : gZ G E cells slots Q t pc lv (.inl v :: .inr (some k) :: st) S := by
  intro ls H locs hl hP hS
  obtain ⟨hx, hb, hml, hown, hts, hK, hfr, hlo, hsy⟩ := cx
  obtain ⟨i, hi, hg⟩ := gW_get (S := S) hk
  rw [gE_obj hs] at hg
  refine g_put (v := .int v) hx hb hlk hfin hts hown hK.1 hP.1 (gD hK.2) hS i hg hty.1 hty.2 gFs_len hd (fun H1 locs1 hP1 hz hS1 => kk ls H1 locs1 hl ⟨?_, by rw [hz]; exact hP.2⟩ hS1)
  rw [gFs_I hr, ← gE_obj hs, gW_set hK.2 hi (fun k' h' => gE_I h')] at hP1
  exact hP1
theorem gz_putR (cx : gC G E cc nL own d) {k : gK} {r : Option gK} {index ci f : Nat} {ty : FieldType} {fin : Bool} (hlk : gLp own index ci f ty fin) (hd : decode cc pc = .ok (.putfield index, 3)) (hk : k ∈ gKs G t) (hs : gSh G.1 k = .inl ci) (hr : gRf ci f = true) (hty : ∀ x : Option Nat, narrow ty (va_rf x) = va_rf x ∧ fits ty (va_rf x) = true) (hfin : fin = true → E.2.2.2.2.2.2.2.2.1.name = "<init>")
    (kk : gZ G E cells slots Q t (pc + 3) lv st (gX S k f r)) : gZ G E cells slots Q t pc lv (.inr r :: .inr (some k) :: st) S := by
  intro ls H locs hl hP hS
  obtain ⟨hx, hb, hml, hown, hts, hK, hfr, hlo, hsy⟩ := cx
  obtain ⟨i, hi, hg⟩ := gW_get (S := S) hk
  rw [gE_obj hs] at hg
  refine g_put (v := gRv G r) hx hb hlk hfin hts hown hK.1 hP.1 (gD hK.2) hS i hg (hty _).1 (hty _).2 gFs_len hd (fun H1 locs1 hP1 hz hS1 => kk ls H1 locs1 hl ⟨?_, by rw [hz]; exact hP.2⟩ hS1)
  rw [gFs_X hr, ← gE_obj hs, gW_set hK.2 hi (fun k' h' => gE_X h')] at hP1
  exact hP1
/-! arrays: an index that is a number in range -/
theorem gz_iaload (cx : gC G E cc nL own d) {k : gK} {x : Int32} {j n : Nat} (hd : decode cc pc = .ok (.iaload, 1)) (hk : k ∈ gKs G t) (hs : gSh G.1 k = .inr (0, n)) (hx : x = nI j) (hj : j < n) (hn : n < 2 ^ 31)
    (kk : gZ G E cells slots Q t (pc + 1) lv (.inl (S.1 k j) :: st) S) : gZ G E cells slots Q t pc lv (.inl x :: .inr (some k) :: st) S := by
  subst hx
  intro ls H locs hl hP hS
  obtain ⟨i, hi, hg⟩ := gW_get (S := S) hk
  rw [gE_arr hs] at hg
  have h := kk ls H locs hl hP hS
  refine va_iald cx.1 cx.2.1 cx.2.2.2.2.2.1.1 hP.1 i 0 hg (gTys_at (t := 0) gTy_0.1) (vp_in_nI hj hn) hd ?_
  rw [nI_clamp (by omega)]
  exact h
theorem gz_zaload (cx : gC G E cc nL own d) {k : gK} {x : Int32} {j n : Nat} (hd : decode cc pc = .ok (.baload, 1)) (hk : k ∈ gKs G t) (hs : gSh G.1 k = .inr (1, n)) (hx : x = nI j) (hj : j < n) (hn : n < 2 ^ 31)
    (kk : gZ G E cells slots Q t (pc + 1) lv (.inl (S.1 k j) :: st) S) : gZ G E cells slots Q t pc lv (.inl x :: .inr (some k) :: st) S := by
  subst hx
  intro ls H locs hl hP hS
  obtain ⟨i, hi, hg⟩ := gW_get (S := S) hk
  rw [gE_arr hs] at hg
  have h := kk ls H locs hl hP hS
  refine va_zald cx.1 cx.2.1 cx.2.2.2.2.2.1.1 hP.1 i 1 hg (gTys_at (t := 1) gTy_0.2.1) (vp_in_nI hj hn) hd ?_
  rw [nI_clamp (by omega)]
  exact h
theorem gz_aaload (cx : gC G E cc nL own d) {k : gK} {r : Option gK} {x : Int32} {j n ty : Nat} {C : String} (hd : decode cc pc = .ok (.aaload, 1)) (hk : k ∈ gKs G t) (hs : gSh G.1 k = .inr (ty, n)) (ht : 2 ≤ ty ∧ ty < gNt ∧ gTy ty = .object C) (hv : S.2 k j = r) (hx : x = nI j) (hj : j < n) (hn : n < 2 ^ 31)
    (kk : gZ G E cells slots Q t (pc + 1) lv (.inr r :: st) S) : gZ G E cells slots Q t pc lv (.inl x :: .inr (some k) :: st) S := by
  subst hx; subst hv
  intro ls H locs hl hP hS
  obtain ⟨i, hi, hg⟩ := gW_get (S := S) hk
  rw [gE_arr hs, gAr, if_neg (by omega)] at hg
  have h := kk ls H locs hl hP hS
  have hty := gTys_at (G := G) ht.2.1
  rw [ht.2.2] at hty
  refine va_aldq cx.1 cx.2.1 cx.2.2.2.2.2.1.1 hP.1 i ty hg hty (vp_in_nI hj hn) hd ?_
  rw [nI_clamp (by omega)]
  exact h
theorem gAr_I {k : gK} {ty j : Nat} {v : Int32} (h : ty < 2) : gAr G (gI S k j v) k ty = .inl (upd (S.1 k) j v) := by
  rw [gAr, if_pos h]
  congr 1
  funext q
  simp [gI, upd]
theorem gz_iastore (cx : gC G E cc nL own d) {k : gK} {x v : Int32} {j n : Nat} (hd : decode cc pc = .ok (.iastore, 1)) (hk : k ∈ gKs G t) (hs : gSh G.1 k = .inr (0, n)) (hx : x = nI j) (hj : j < n) (hn : n < 2 ^ 31)
    (kk : gZ G E cells slots Q t (pc + 1) lv st (gI S k j v)) : gZ G E cells slots Q t pc lv (.inl v :: .inl x :: .inr (some k) :: st) S := by
  subst hx
  intro ls H locs hl hP hS
  obtain ⟨hx, hb, hml, hown, hts, hK, hfr, hlo, hsy⟩ := cx
  obtain ⟨i, hi, hg⟩ := gW_get (S := S) hk
  rw [gE_arr hs] at hg
  refine g_iast hx hb hK.1 hP.1 (gD hK.2) hS i 0 hg (gTys_at (t := 0) gTy_0.1) (vp_in_nI hj hn) hd (fun H1 locs1 hP1 hz hS1 => kk ls H1 locs1 hl ⟨?_, by rw [hz]; exact hP.2⟩ hS1)
  rw [nI_clamp (by omega), ← gAr_I (G := G) (S := S) (ty := 0) (by omega), ← gE_arr hs, gW_set hK.2 hi (fun k' h' => gE_I h')] at hP1
  exact hP1
theorem gz_zastore (cx : gC G E cc nL own d) {k : gK} {x v : Int32} {j n : Nat} (hd : decode cc pc = .ok (.bastore, 1)) (hk : k ∈ gKs G t) (hs : gSh G.1 k = .inr (1, n)) (hz : narrow .boolean (.int v) = .int v) (hx : x = nI j) (hj : j < n) (hn : n < 2 ^ 31)
    (kk : gZ G E cells slots Q t (pc + 1) lv st (gI S k j v)) : gZ G E cells slots Q t pc lv (.inl v :: .inl x :: .inr (some k) :: st) S := by
  subst hx
  intro ls H locs hl hP hS
  obtain ⟨hx, hb, hml, hown, hts, hK, hfr, hlo, hsy⟩ := cx
  obtain ⟨i, hi, hg⟩ := gW_get (S := S) hk
  rw [gE_arr hs] at hg
  refine g_zast hx hb hK.1 hP.1 (gD hK.2) hS i 1 hg (gTys_at (t := 1) gTy_0.2.1) hz (vp_in_nI hj hn) hd (fun H1 locs1 hP1 hz hS1 => kk ls H1 locs1 hl ⟨?_, by rw [hz]; exact hP.2⟩ hS1)
  rw [nI_clamp (by omega), ← gAr_I (G := G) (S := S) (ty := 1) (by omega), ← gE_arr hs, gW_set hK.2 hi (fun k' h' => gE_I h')] at hP1
  exact hP1
theorem gAr_X {k k2 : gK} {ty j : Nat} (h : 2 ≤ ty) : gAr G (gX S k j (some k2)) k ty = .inr (.inr (.inr (.inr (va_up (fun j => (S.2 k j).map (gAd G)) j (some (gAd G k2)))))) := by
  rw [gAr, if_neg (by omega)]
  congr 4
  funext q
  by_cases h : q = j <;> simp [gX, va_up, h]
theorem gz_aastore (cx : gC G E cc nL own d) {k k2 : gK} {x : Int32} {j n ty ci : Nat} {C : String} {T : u_T} {N : Nat} (hd : decode cc pc = .ok (.aastore, 1)) (hk : k ∈ gKs G t) (hk2 : k2 ∈ gKs G t) (hs : gSh G.1 k = .inr (ty, n)) (hs2 : gSh G.1 k2 = .inl ci) (ht : 2 ≤ ty ∧ ty < gNt ∧ gTy ty = .object C) (hc : gCl[ci]? = some (C, T, N)) (hx : x = nI j) (hj : j < n) (hn : n < 2 ^ 31)
    (kk : gZ G E cells slots Q t (pc + 1) lv st (gX S k j (some k2))) : gZ G E cells slots Q t pc lv (.inr (some k2) :: .inl x :: .inr (some k) :: st) S := by
  subst hx
  intro ls H locs hl hP hS
  obtain ⟨hx, hb, hml, hown, hts, hK, hfr, hlo, hsy⟩ := cx
  obtain ⟨i, hi, hg⟩ := gW_get (S := S) hk
  obtain ⟨i2, hi2, hg2⟩ := gW_get (S := S) hk2
  rw [gE_arr hs, gAr, if_neg (by omega)] at hg
  rw [gE_obj hs2] at hg2
  have hty := gTys_at (G := G) ht.2.1
  rw [ht.2.2] at hty
  refine g_aast hx hb hK.1 hP.1 (gD hK.2) hS i ty i2 ci hg hty hg2 hc (vp_in_nI hj hn) hd (fun H1 locs1 hP1 hz hS1 => kk ls H1 locs1 hl ⟨?_, by rw [hz]; exact hP.2⟩ hS1)
  rw [nI_clamp (by omega), ← gAr_X (G := G) (S := S) (ty := ty) (by omega), ← gE_arr hs, gW_set hK.2 hi (fun k' h' => gE_X h')] at hP1
  exact hP1
theorem gz_alen (cx : gC G E cc nL own d) {k : gK} {n ty : Nat} (hd : decode cc pc = .ok (.arraylength, 1)) (hk : k ∈ gKs G t) (hs : gSh G.1 k = .inr (ty, n)) (ht : ty < gNt)
    (kk : gZ G E cells slots Q t (pc + 1) lv (.inl (nI n) :: st) S) : gZ G E cells slots Q t pc lv (.inr (some k) :: st) S := by
  intro ls H locs hl hP hS
  obtain ⟨i, hi, hg⟩ := gW_get (S := S) hk
  rw [gE_arr hs] at hg
  exact va_alen (v := nI n) cx.1 cx.2.1 cx.2.2.2.2.2.1.1 hP.1 i ty hg (gTys_at ht) rfl hd (kk ls H locs hl hP hS)
/-! ends -/
theorem gz_ireturn (cx : gC G E cc nL own d) {Rt : Option gV → gS → Prop} {v : Int32} {ty : FieldType} (hr : E.2.2.2.2.2.2.2.2.1.sig.returnType = some ty) (hn : narrow ty (.int v) = .int v) (hd : decode cc pc = .ok (.ireturn, 1)) (hq : Rt (some (.inl v)) S) : gZ G E cells slots (gEnd G E cells slots t Rt) t pc lv [.inl v] S := by
  intro ls H locs hl hP hS
  obtain ⟨hx, hb, hml, hown, hts, hK, hfr, hlo, hsy⟩ := cx
  exact W.zret hx hb hr hn (fun u hu _ => ⟨⟨some (.inl v), S, rfl, hq, by rw [hu]; exact hP⟩, hS.F hu⟩) hS.2.2 hd hsy
theorem gz_return (cx : gC G E cc nL own d) {Rt : Option gV → gS → Prop} (hr : E.2.2.2.2.2.2.2.2.1.sig.returnType = none) (hd : decode cc pc = .ok (.return_, 1)) (hq : Rt none S) : gZ G E cells slots (gEnd G E cells slots t Rt) t pc lv [] S := by
  intro ls H locs hl hP hS
  obtain ⟨hx, hb, hml, hown, hts, hK, hfr, hlo, hsy⟩ := cx
  exact W.vret hx hb hr (fun u hu _ => ⟨⟨none, S, rfl, hq, by rw [hu]; exact hP⟩, hS.F hu⟩) hS.2.2 hd hsy
theorem gz_areturn (cx : gC G E cc nL own d) {Rt : Option gV → gS → Prop} {r : Option gK} {C : String} (hr : E.2.2.2.2.2.2.2.2.1.sig.returnType = some (.object C)) (hd : decode cc pc = .ok (.areturn, 1)) (hq : Rt (some (.inr r)) S) : gZ G E cells slots (gEnd G E cells slots t Rt) t pc lv [.inr r] S := by
  intro ls H locs hl hP hS
  obtain ⟨hx, hb, hml, hown, hts, hK, hfr, hlo, hsy⟩ := cx
  exact W.aret (v := gRv G r) hx hb hr (Or.inl ⟨_, rfl⟩) (by cases r with | none => exact Or.inl rfl | some k => exact Or.inr ⟨_, rfl⟩) (fun u hu _ => ⟨⟨some (.inr r), S, rfl, hq, by rw [hu]; exact hP⟩, hS.F hu⟩) hS.2.2 hd hsy
end GZ
/-! calls -/
theorem g_callW {G : gG} {p : Program} {l : Launch} {e : Env} {R : Room} {s : State} {m : MethodId} {args : Array Value} {below : List Frame} {meth : Method} {c : Code} {H : Heap} {locs : List Loc} {cells slots mc ms pc t' : Nat} {Q : State → Prop} {ls : Array Slot} {st0 rest : List Value} {a : Array Value} {Rt : Option gV → gS → Prop}
    (hr : va_Run p l e R s m args below meth c H locs cells slots mc ms (F0 m pc ls st0) rest (gQ G t' Rt a) (gA G)) (hS : va_S (gA G) s.heap H locs)
    (kk : ∀ (v : Option gV) (S' : gS) (H1 : Heap) (locs1 : List Loc), Rt v S' → gP G t' S' H1 → va_S (gA G) s.heap H1 locs1 → W p l e R s m args below meth c H1 locs1 (cells + mc) (slots + ms) Q (F0 m (pc + 3) ls ((v.map (gc G)).toList ++ rest))) :
    W p l e R s m args below meth c H locs cells slots Q (F0 m pc ls st0) := by
  intro T hT X
  obtain ⟨v, st₀, u, T', L, h0, X', hL, e1, e2, ⟨⟨v', S', hv, hp, hb⟩, hz, hk⟩, st⟩ := hr T hT X
  cases hv
  rw [h0] at hz hk
  obtain ⟨t2, a1, b1⟩ := kk v' S' T'.heap (locs ++ L) hp (by rw [e1]; exact hb)
    ⟨Nat.le_trans hS.1 (by rw [e1]; exact hz), fun q h1 h2 => by rw [e1, hk q (Nat.lt_of_lt_of_le h1 hS.1) h2]; exact hS.2.1 q h1 h2, fun q hq => by
      rcases List.mem_append.mp hq with h | h
      · exact hS.2.2 q h
      · exact hL q h⟩ T' rfl X'
  exact ⟨t2, st t2 a1, b1⟩
theorem g_blind (G : gG) (t : Nat) (av : List gV) (S : gS) : FrameBlind (gPc G t av S) := fun a U g mk h => ⟨h.1, h.2.1, gKn.moved (u := U) (U := U.calling g mk a) (Vm.Alike.refl U.vm) h.2.2⟩
theorem g_cats (G : gG) (st : List gV) : ((st.map (gc G)).map fun v => v.category).sum = st.length := by
  induction st with
  | nil => rfl
  | cons a l ih => simp only [List.map_cons, List.sum_cons, gc_cat, ih, List.length_cons]; omega
/-- what a call rests on -/
def gLv (own : String) (index : Nat) (y : MethodName) (ws : List Cond) (n : Nat) : Prop := ∃ (bytes : ByteArray) (maxL : Nat) (ret : Option FieldType), ws = Cond.code y bytes maxL ret :: gTb ∧ Cond.code y bytes maxL ret ∈ gTb ∧ Cond.methodLink own index y ∈ gTb ∧ Cond.instanceMethod y ∈ gTb ∧ Cond.selects y.cls y y ∈ gTb ∧ Cond.initialized y.cls ∈ gTb ∧
  (y.cls ≠ "java/lang/invoke/MethodHandle" ∧ y.cls ≠ "java/lang/invoke/VarHandle" ∧ (parseMethodDescriptor y.desc).map (fun d => d.parameters.length) = some n) ∧ maxL ≤ 21
def gLs (own : String) (index : Nat) (y : MethodName) (ws : List Cond) (n : Nat) : Prop := ∃ (bytes : ByteArray) (maxL : Nat) (ret : Option FieldType), ws = Cond.code y bytes maxL ret :: gTb ∧ Cond.code y bytes maxL ret ∈ gTb ∧ Cond.methodLink own index y ∈ gTb ∧ Cond.static y ∈ gTb ∧ Cond.initialized y.cls ∈ gTb ∧
  (y.cls ≠ "java/lang/invoke/MethodHandle" ∧ y.cls ≠ "java/lang/invoke/VarHandle" ∧ (parseMethodDescriptor y.desc).map (fun d => d.parameters.length) = some n) ∧ maxL ≤ 21
def gLi (own : String) (index : Nat) (y : MethodName) (ws : List Cond) (n : Nat) : Prop := ∃ (bytes : ByteArray) (maxL : Nat), ws = Cond.code y bytes maxL none :: gTb ∧ Cond.code y bytes maxL none ∈ gTb ∧ Cond.methodLink own index y ∈ gTb ∧ Cond.instanceMethod y ∈ gTb ∧ Cond.initialized y.cls ∈ gTb ∧ y.name = "<init>" ∧
  (y.cls ≠ "java/lang/invoke/MethodHandle" ∧ y.cls ≠ "java/lang/invoke/VarHandle" ∧ (parseMethodDescriptor y.desc).map (fun d => d.parameters.length) = some n) ∧ maxL ≤ 21
theorem gGood {y : MethodName} {bytes : ByteArray} {maxL : Nat} {ret : Option FieldType} (h : Cond.code y bytes maxL ret ∈ gTb) : GoodIn gTb (Cond.code y bytes maxL ret :: gTb) := fun w hw => by
  rcases List.mem_cons.mp hw with rfl | hw
  · exact ⟨h, good_of_word (gTb_good _ h)⟩
  · exact ⟨hw, good_of_word (gTb_good _ hw)⟩
section GZC
variable {G : gG} {E : gEnv} {cells slots : Nat} {Q : State → Prop} {t pc : Nat} {lv : List (Option gV)} {st : List gV} {S : gS} {cc : ByteArray} {nL : Nat} {own : String} {d : Nat}
theorem gz_callV (cx : gC G E cc nL own d) {y : MethodName} {ws : List Cond} {d' mc ms t' n index ci : Nat} {b : gK} {As st0 : List gV} {T : u_T} {N : Nat} {Rt : Option gV → gS → Prop} (hlv : gLv own index y ws n) (hd : decode cc pc = .ok (.invokevirtual index, 3)) (hM : gM G E.2.1 y ws d' mc ms t t' (.inr (some b) :: As) S Rt) (hdd : d' < d) (hn : As.length = n) (hb : b ∈ gKs G t) (hs : gSh G.1 b = .inl ci) (hc : gCl[ci]? = some (y.cls, T, N)) (hst : st0 = As.reverse ++ .inr (some b) :: st) (hnl : lv.length = nL) (hsl : st.length ≤ 8) (hf : cells + mc ≤ E.2.2.2.1.cells ∧ slots + ms ≤ E.2.2.2.1.slots)
    (kk : ∀ (v : Option gV) (S' : gS), Rt v S' → gZ G E (cells + mc) (slots + ms) Q t' (pc + 3) lv (v.toList ++ st) S') : gZ G E cells slots Q t pc lv st0 S := by
  subst hst
  intro ls H locs hl hP hS
  obtain ⟨bytes, maxL, ret, hw, hcd, hml2, hins, hsel, hini, hy, hm⟩ := hlv
  subst hw
  have hG := gGood hcd
  obtain ⟨hx, hcb, hml, hown, hts, hK, hfr, hlo, hsy⟩ := cx
  obtain ⟨i, hi, hg⟩ := gW_get (S := S) hb
  rw [gE_obj hs] at hg
  refine g_callW (va_runV (As := As.map (gc G)) (rest := st.map (gc G)) (nL := nL) ⟨hx, hcb, hml, hown, hts⟩ hM ⟨callB_of n hts hG rfl rfl rfl (hts _ hini) (hts _ hml2) hy ⟨by show d' + 1 ≤ _; omega, by show 8 + (maxL + 11) + 40 * d' ≤ _; omega⟩, hts _ hins, hts _ hsel⟩ ⟨g_blind G t _ S, va_recv hK.1 hP.1 hc hg, fun U hU hW => ⟨rfl, by rw [hU]; exact hP, hK.moved hW.alike⟩⟩ rfl (by rw [List.length_map]; exact hn) (by rw [← hnl]; exact hl.1) (by show List.map (gc G) _ = _; rw [List.map_append, List.map_reverse]; rfl) (lv_room (by rw [g_cats]; exact hsl)) hd hf) hS (fun v S' H1 locs1 hR hP1 hS1 => ?_)
  have h := kk v S' hR ls H1 locs1 hl hP1 hS1
  rw [List.map_append] at h
  cases v <;> exact h
theorem gz_callS (cx : gC G E cc nL own d) {y : MethodName} {ws : List Cond} {d' mc ms t' n index : Nat} {As st0 : List gV} {Rt : Option gV → gS → Prop} (hlv : gLs own index y ws n) (hd : decode cc pc = .ok (.invokestatic index, 3)) (hM : gM G E.2.1 y ws d' mc ms t t' As S Rt) (hdd : d' < d) (hn : As.length = n) (hst : st0 = As.reverse ++ st) (hnl : lv.length = nL) (hsl : st.length ≤ 8) (hf : cells + mc ≤ E.2.2.2.1.cells ∧ slots + ms ≤ E.2.2.2.1.slots)
    (kk : ∀ (v : Option gV) (S' : gS), Rt v S' → gZ G E (cells + mc) (slots + ms) Q t' (pc + 3) lv (v.toList ++ st) S') : gZ G E cells slots Q t pc lv st0 S := by
  subst hst
  intro ls H locs hl hP hS
  obtain ⟨bytes, maxL, ret, hw, hcd, hml2, hins, hini, hy, hm⟩ := hlv
  subst hw
  have hG := gGood hcd
  obtain ⟨hx, hcb, hml, hown, hts, hK, hfr, hlo, hsy⟩ := cx
  refine g_callW (va_runS (As := As.map (gc G)) (rest := st.map (gc G)) (nL := nL) ⟨hx, hcb, hml, hown, hts⟩ hM ⟨callB_of n hts hG rfl rfl rfl (hts _ hini) (hts _ hml2) hy ⟨by show d' + 1 ≤ _; omega, by show 8 + (maxL + 11) + 40 * d' ≤ _; omega⟩, hts _ hins⟩ ⟨g_blind G t _ S, fun U hU hW => ⟨rfl, by rw [hU]; exact hP, hK.moved hW.alike⟩⟩ rfl (by rw [List.length_map]; exact hn) (by rw [← hnl]; exact hl.1) (by show List.map (gc G) _ = _; rw [List.map_append, List.map_reverse]) (lv_room (by rw [g_cats]; exact hsl)) hd hf) hS (fun v S' H1 locs1 hR hP1 hS1 => ?_)
  have h := kk v S' hR ls H1 locs1 hl hP1 hS1
  rw [List.map_append] at h
  cases v <;> exact h
theorem gz_max (cx : gC G E cc nL own d) {index : Nat} {x y : Int32} (hl1 : Cond.methodLink own index Lib.Math.max.name ∈ gTb) (hl2 : Cond.static Lib.Math.max.name ∈ gTb) (hl3 : Cond.initialized "java/lang/Math" ∈ gTb) (hl4 : Cond.code Lib.Math.max.name Lib.Math.max.code 2 (some .int) ∈ gTb) (hd : decode cc pc = .ok (.invokestatic index, 3)) (hdd : 1 ≤ d) (hnl : lv.length = nL) (hsl : st.length ≤ 8) (hf : cells ≤ E.2.2.2.1.cells ∧ slots ≤ E.2.2.2.1.slots)
    (kk : gZ G E cells slots Q t (pc + 3) lv (.inl (if x < y then y else x) :: st) S) : gZ G E cells slots Q t pc lv (.inl y :: .inl x :: st) S := by
  intro ls H locs hl hP hS
  obtain ⟨hx, hcb, hml, hown, hts, hK, hfr, hlo, hsy⟩ := cx
  exact va_mmax (rest := st.map (gc G)) hx hcb (by rw [hml, ← hnl]; exact hl.1.symm) hown (hts _ hl1) (hts _ hl2) (hts _ hl3) (hts _ hl4) (by omega) (by rw [g_cats]; omega) hf.1 hf.2 hd (kk ls H locs hl hP hS)
theorem gz_min (cx : gC G E cc nL own d) {index : Nat} {x y : Int32} (hl1 : Cond.methodLink own index Lib.Math.min.name ∈ gTb) (hl2 : Cond.static Lib.Math.min.name ∈ gTb) (hl3 : Cond.initialized "java/lang/Math" ∈ gTb) (hl4 : Cond.code Lib.Math.min.name Lib.Math.min.code 2 (some .int) ∈ gTb) (hd : decode cc pc = .ok (.invokestatic index, 3)) (hdd : 1 ≤ d) (hnl : lv.length = nL) (hsl : st.length ≤ 8) (hf : cells ≤ E.2.2.2.1.cells ∧ slots ≤ E.2.2.2.1.slots)
    (kk : gZ G E cells slots Q t (pc + 3) lv (.inl (if y < x then y else x) :: st) S) : gZ G E cells slots Q t pc lv (.inl y :: .inl x :: st) S := by
  intro ls H locs hl hP hS
  obtain ⟨hx, hcb, hml, hown, hts, hK, hfr, hlo, hsy⟩ := cx
  exact va_mmin (rest := st.map (gc G)) hx hcb (by rw [hml, ← hnl]; exact hl.1.symm) hown (hts _ hl1) (hts _ hl2) (hts _ hl3) (hts _ hl4) (by omega) (by rw [g_cats]; omega) hf.1 hf.2 hd (kk ls H locs hl hP hS)
theorem gz_ldcw (cx : gC G E cc nL own d) {index : Nat} {v : Int32} (hc : Cond.constant own index v ∈ gTb) (hd : decode cc pc = .ok (.ldc_w index, 3)) (k : gZ G E cells slots Q t (pc + 3) lv (.inl v :: st) S) : gZ G E cells slots Q t pc lv st S := by
  intro ls H locs hl hP hS
  obtain ⟨hx, hcb, hml, hown, hts, hK, hfr, hlo, hsy⟩ := cx
  exact lv_ldcw hx hcb hown (hts _ hc) hd (k ls H locs hl hP hS)
end GZC
/-! a contract out of a walk -/
theorem g_args (G : gG) : ∀ (av : List gV) (i0 i : Nat) (v : gV), av[i]? = some v → (i0 + i, gc G v) ∈ lv_args i0 (av.map (gc G))
  | [], _, i, v, h => by simp at h
  | a :: av, i0, 0, v, h => by
    simp at h; subst h
    simp [lv_args]
  | a :: av, i0, i + 1, v, h => by
    have h2 := g_args G av (i0 + 1) i v (by simpa using h)
    have e : i0 + 1 + i = i0 + (i + 1) := by omega
    rw [e] at h2
    simp only [List.map_cons, lv_args, gc_cat]
    exact List.mem_cons_of_mem _ h2
theorem g_slots (G : gG) (av : List gV) : (lg_sl (av.map (gc G))).length = av.length := by
  induction av with
  | nil => rfl
  | cons a l ih =>
    simp only [lg_sl, List.map_cons, List.flatMap_cons, gc_cat] at ih ⊢
    simp only [List.length_append, List.length_cons] at ih ⊢
    simp at ih ⊢
    omega
theorem g_entry {G : gG} {av : List gV} {n : Nat} (h : av.length ≤ n) : gL G ((lg_sl (av.map (gc G)) ++ List.replicate (n - (lg_sl (av.map (gc G))).length) Slot.unset).toArray) (av.map some ++ List.replicate (n - av.length) none) := by
  obtain ⟨h1, h2, h3⟩ := lv_entry (av.map (gc G)) (n := n) (by rw [g_slots]; exact h)
  refine ⟨by rw [h1]; simp; omega, h2, fun i v hv => ?_⟩
  have hi : av[i]? = some v := by
    by_cases hl : i < av.length
    · rw [List.getElem?_append_left (by simpa using hl), List.getElem?_map] at hv
      cases ha : av[i]? with
      | none => rw [ha] at hv; cases hv
      | some w => rw [ha] at hv; cases hv; rfl
    · rw [List.getElem?_append_right (by simpa using hl), List.getElem?_replicate] at hv
      split at hv <;> cases hv
  have := h3 _ (g_args G av 0 i v hi)
  simpa using this
theorem gM_of {G : gG} {l : Launch} {y : MethodName} {ws : List Cond} {d mc ms t t' : Nat} {av : List gV} {S : gS} {Rt : Option gV → gS → Prop} {cc : ByteArray} {maxL : Nat} {ret : Option FieldType} (hy : plainName y.cls = true) (hw : ws = Cond.code y cc maxL ret :: gTb) (hL : av.length ≤ maxL)
    (body : ∀ E : gEnv, gC G E cc maxL y.cls d → E.2.2.2.2.2.2.2.2.1.sig.returnType = ret → E.2.2.2.2.2.2.2.2.1.name = y.name → E.2.2.2.1.cells = mc → E.2.2.2.1.slots = ms → E.2.1 = l → gZ G E 0 0 (gEnd G E mc ms t' Rt) t 0 (av.map some ++ List.replicate (maxL - av.length) none) [] S) : gM G l y ws d mc ms t t' av S Rt := by
  refine Met.ofW (cc := cc) (maxL := maxL) (ret := ret) hy hw ?_
  intro p e s m args below meth c s₁ B hml hv
  obtain ⟨rfl, hP, hK⟩ := hv
  have hb := body (p, l, e, (headSpec ws { frames := d, cells := mc, slots := ms, locals := 40 * d }).room, s, m, _, below, meth, c) ⟨B.exec, B.bytes, hml, findClass_of_methodNamed B.named, (fun w h => atoms_spec (ws := ws) B.pre w (by rw [hw]; exact List.mem_cons_of_mem _ h)), hK, Nat.le_refl _, Nat.le_refl _, B.notSynchronized⟩ B.returns (name_of_methodNamed B.named B.method).1 rfl rfl rfl
  rw [lg_entry_eq]
  exact hb _ s.heap [] (g_entry hL) hP va_S.rf
