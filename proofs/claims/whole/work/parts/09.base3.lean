/-! what never changes of the class's cells -/
def cK (G : gG) (S : gS) : Prop := gSt G S ∧ G.1 ≤ 8 ∧ 2 ≤ G.1 ∧ (∀ i, i < G.1 → S.1 (7, i, 0) 0 = nI i ∧ S.1 (7, i, 0) 1 = nI G.1) ∧ S.1 (0, 0, 0) 0 = nI G.1
theorem cK.of {G : gG} {S S' : gS} (h : cK G S) (h2 : ∀ k f k', gStat k f = some k' → S'.2 k f = S.2 k f) (h7 : ∀ i, S'.1 (7, i, 0) 0 = S.1 (7, i, 0) 0 ∧ S'.1 (7, i, 0) 1 = S.1 (7, i, 0) 1) (h0 : S'.1 (0, 0, 0) 0 = S.1 (0, 0, 0) 0) : cK G S' :=
  ⟨fun k f k' hk => by rw [h2 k f k' hk]; exact h.1 k f k' hk, h.2.1, h.2.2.1, fun i hi => by rw [(h7 i).1, (h7 i).2]; exact h.2.2.2.1 i hi, by rw [h0]; exact h.2.2.2.2⟩
theorem cK.I {G : gG} {S : gS} {k : gK} {f : Nat} {v : Int32} (h : cK G S) (hk : k.1 ≠ 0 ∧ (k.1 = 7 → 2 ≤ f)) : cK G (gI S k f v) := by
  refine h.of (fun _ _ _ _ => rfl) (fun i => ?_) ?_
  · rw [gI1, gI1]
    have h1 : ¬ ((7, i, 0) = k ∧ 0 = f) := fun q => by have := hk.2 (by rw [← q.1]); omega
    have h2 : ¬ ((7, i, 0) = k ∧ 1 = f) := fun q => by have := hk.2 (by rw [← q.1]); omega
    rw [if_neg h1, if_neg h2]; exact ⟨rfl, rfl⟩
  · rw [gI1, if_neg (fun q => hk.1 (by rw [← q.1]))]
/-! the queue -/
def mBest (q : Nat → Int32) : Nat → Option Nat
  | 0 => none
  | m + 1 => match mBest q m with
    | none => if 0 < q m then some m else none
    | some b => if q b < q m then some m else some b
def mPick (n : Nat) : Nat → (Nat → Int32) → List Nat
  | 0, _ => []
  | k + 1, q => match mBest q n with
    | none => []
    | some b => b :: mPick n k (fun m => if m = b then 0 else q m)
def mB (r : Option Nat) : Int32 := match r with
  | none => -1
  | some b => nI b
def mV (q : Nat → Int32) (r : Option Nat) : Int32 := match r with
  | none => 0
  | some b => q b
theorem mBest_lt {q : Nat → Int32} : ∀ {k b : Nat}, mBest q k = some b → b < k ∧ 0 < q b
  | 0, b, h => by cases h
  | k + 1, b, h => by
    rw [mBest] at h
    cases hb : mBest q k with
    | none =>
      rw [hb] at h
      by_cases h0 : 0 < q k
      · simp [h0] at h; subst h; exact ⟨by omega, h0⟩
      · simp [h0] at h
    | some c =>
      rw [hb] at h
      have ih := mBest_lt hb
      by_cases h0 : q c < q k
      · simp [h0] at h; subst h; exact ⟨by omega, Int32.lt_trans ih.2 h0⟩
      · simp [h0] at h; subst h; exact ⟨by omega, ih.2⟩
theorem mBest_step {q : Nat → Int32} {k : Nat} : mBest q (k + 1) = if mV q (mBest q k) < q k then some k else mBest q k := by
  rw [mBest]
  cases hb : mBest q k with
  | none => rfl
  | some b => rfl
theorem mBest_congr {q q' : Nat → Int32} : ∀ {k : Nat}, (∀ m, m < k → q m = q' m) → mBest q k = mBest q' k
  | 0, _ => rfl
  | k + 1, h => by
    rw [mBest_step, mBest_step, mBest_congr (k := k) (fun m hm => h m (by omega)), h k (by omega)]
    cases hb : mBest q' k with
    | none => rfl
    | some b => rw [mV, mV, h b (by have := (mBest_lt hb).1; omega)]
def qm (S : gS) (i : Nat) (l : List Nat) (m : Nat) : Int32 := if m ∈ l then 0 else S.1 (9, i, m) 4
/-- a mask of members below 8 -/
def isMk (x : Int32) (l : List Nat) : Prop := ∃ y : Nat, y < 256 ∧ x = nI y ∧ ∀ m, m < 8 → ((x >>> (nI m &&& 31)) &&& 1 = 0 ↔ m ∉ l)
theorem isMk_dec : ∀ x, x < 256 → ∀ b, b < 8 → nI x ||| (1 <<< (nI b &&& 31)) = nI (x ||| (2 ^ b)) ∧ x ||| (2 ^ b) < 256 ∧ ∀ m, m < 8 → ((nI (x ||| (2 ^ b)) >>> (nI m &&& 31)) &&& 1 = 0 ↔ (m ≠ b ∧ (nI x >>> (nI m &&& 31)) &&& 1 = 0)) := by decide +kernel
theorem isMk_0 : isMk 0 [] := ⟨0, by decide, rfl, by decide +kernel⟩
theorem isMk_add {x : Int32} {l : List Nat} {b : Nat} (h : isMk x l) (hb : b < 8) : isMk (x ||| (1 <<< (nI b &&& 31))) (l ++ [b]) := by
  obtain ⟨y, hy, rfl, hm⟩ := h
  obtain ⟨e, h2, h3⟩ := isMk_dec y hy b hb
  refine ⟨y ||| 2 ^ b, h2, e, fun m hm8 => ?_⟩
  rw [e, h3 m hm8, hm m hm8]
  simp only [List.mem_append, List.mem_singleton, not_or]
  exact And.comm
/-! loading a message -/
def sCarry (S : gS) (a c i m : Nat) : gS := gI (gI (gI (gI S (6, a, 0) (3 * c) (nI m)) (6, a, 0) (3 * c + 1) (S.1 (9, i, m) 0)) (6, a, 0) (3 * c + 2) (S.1 (9, i, m) 1)) (5, a, 0) 6 (nI (c + 1))
def sLoad (a i : Nat) : List Nat → Nat → gS → gS
  | [], _, S => S
  | m :: l, c, S => sLoad a i l (c + 1) (sCarry S a c i m)
def sQ (a i : Nat) : List Nat → Nat → gS → gS
  | [], _, S => S
  | m :: l, c, S => sQ a i l (c + 1) (gI (sCarry S a c i m) (9, i, m) 4 (S.1 (9, i, m) 4 - 1))
theorem sLoad_app (a i : Nat) : ∀ (l : List Nat) (m c : Nat) (S : gS), sLoad a i (l ++ [m]) c S = sCarry (sLoad a i l c S) a (c + l.length) i m
  | [], m, c, S => rfl
  | b :: l, m, c, S => by
    show sLoad a i (l ++ [m]) (c + 1) _ = sCarry (sLoad a i l (c + 1) _) a (c + (l.length + 1)) i m
    rw [sLoad_app a i l m (c + 1)]
    congr 1
    omega
theorem sQ_app (a i : Nat) : ∀ (l : List Nat) (m c : Nat) (S : gS), sQ a i (l ++ [m]) c S = gI (sCarry (sQ a i l c S) a (c + l.length) i m) (9, i, m) 4 ((sQ a i l c S).1 (9, i, m) 4 - 1)
  | [], m, c, S => rfl
  | b :: l, m, c, S => by
    show sQ a i (l ++ [m]) (c + 1) _ = gI (sCarry (sQ a i l (c + 1) _) a (c + (l.length + 1)) i m) (9, i, m) 4 _
    rw [sQ_app a i l m (c + 1)]
    have e : c + 1 + l.length = c + (l.length + 1) := by omega
    rw [e]
    rfl
theorem sCarry_off {S : gS} {a c i m : Nat} {k : gK} {f : Nat} (h5 : k.1 ≠ 6) (h6 : k = (5, a, 0) → f ≠ 6) : (sCarry S a c i m).1 k f = S.1 k f := by
  unfold sCarry
  have h1 : ∀ x, ¬ (k = (6, a, 0) ∧ f = x) := fun x q => h5 (by rw [q.1])
  rw [gI1, if_neg (fun q => h6 q.1 q.2), gI1, if_neg (h1 _), gI1, if_neg (h1 _), gI1, if_neg (h1 _)]
theorem sCarry_2 {S : gS} {a c i m : Nat} : (sCarry S a c i m).2 = S.2 := rfl
theorem sCarry_c {S : gS} {a c i m : Nat} : (sCarry S a c i m).1 (5, a, 0) 6 = nI (c + 1) := by
  unfold sCarry
  rw [gI1, if_pos ⟨rfl, rfl⟩]
theorem sLoad_off {a i : Nat} : ∀ {l : List Nat} {c : Nat} {S : gS} {k : gK} {f : Nat}, k.1 ≠ 6 → (k = (5, a, 0) → f ≠ 6) → (sLoad a i l c S).1 k f = S.1 k f
  | [], _, _, _, _, _, _ => rfl
  | m :: l, c, S, k, f, h1, h2 => by
    show (sLoad a i l (c + 1) _).1 k f = _
    rw [sLoad_off h1 h2, sCarry_off h1 h2]
theorem sLoad_2 {a i : Nat} : ∀ {l : List Nat} {c : Nat} {S : gS}, (sLoad a i l c S).2 = S.2
  | [], _, _ => rfl
  | m :: l, c, S => by
    show (sLoad a i l (c + 1) _).2 = _
    rw [sLoad_2]; rfl
theorem sLoad_c {a i : Nat} : ∀ {l : List Nat} {c : Nat} {S : gS}, S.1 (5, a, 0) 6 = nI c → (sLoad a i l c S).1 (5, a, 0) 6 = nI (c + l.length)
  | [], _, _, h => h
  | m :: l, c, S, h => by
    show (sLoad a i l (c + 1) _).1 _ _ = _
    rw [sLoad_c sCarry_c]
    congr 1
    simp only [List.length_cons]; omega
theorem sQ_off {a i : Nat} : ∀ {l : List Nat} {c : Nat} {S : gS} {k : gK} {f : Nat}, k.1 ≠ 6 → (k = (5, a, 0) → f ≠ 6) → (k.1 = 9 → f ≠ 4 ∨ k.2.1 ≠ i ∨ k.2.2 ∉ l) → (sQ a i l c S).1 k f = S.1 k f
  | [], _, _, _, _, _, _, _ => rfl
  | m :: l, c, S, k, f, h1, h2, h3 => by
    show (sQ a i l (c + 1) _).1 k f = _
    rw [sQ_off h1 h2 (fun q => by
      rcases h3 q with h | h | h
      · exact Or.inl h
      · exact Or.inr (Or.inl h)
      · exact Or.inr (Or.inr (fun z => h (List.mem_cons_of_mem _ z)))), gI1, if_neg, sCarry_off h1 h2]
    intro q
    rcases h3 (by rw [q.1]) with h | h | h
    · exact h q.2
    · exact h (by rw [q.1])
    · exact h (by rw [q.1]; exact List.mem_cons_self)
theorem sQ_2 {a i : Nat} : ∀ {l : List Nat} {c : Nat} {S : gS}, (sQ a i l c S).2 = S.2
  | [], _, _ => rfl
  | m :: l, c, S => by
    show (sQ a i l (c + 1) _).2 = _
    rw [sQ_2]; rfl
theorem sQ_c {a i : Nat} : ∀ {l : List Nat} {c : Nat} {S : gS}, S.1 (5, a, 0) 6 = nI c → (sQ a i l c S).1 (5, a, 0) 6 = nI (c + l.length)
  | [], _, _, h => h
  | m :: l, c, S, h => by
    show (sQ a i l (c + 1) _).1 _ _ = _
    rw [sQ_c (by rw [gI1, if_neg (fun q => by simp at q)]; exact sCarry_c)]
    congr 1
    simp only [List.length_cons]; omega
def mTab (S : gS) (i k : Nat) : List Nat := (List.range k).filter (fun m => !decide (S.1 (9, i, m) 0 = 0))
theorem mTab_s (S : gS) (i k : Nat) : mTab S i (k + 1) = if S.1 (9, i, k) 0 = 0 then mTab S i k else mTab S i k ++ [k] := by
  unfold mTab
  rw [List.range_succ, List.filter_append]
  by_cases h : S.1 (9, i, k) 0 = 0 <;> simp [h]
theorem mTab_len (S : gS) (i k : Nat) : (mTab S i k).length ≤ k := by
  unfold mTab
  exact Nat.le_trans (List.length_filter_le _ _) (by simp)
theorem cK.load {G : gG} {S : gS} {a i c : Nat} {l : List Nat} (h : cK G S) : cK G (sLoad a i l c S) := h.of (fun _ _ _ _ => by rw [sLoad_2]) (fun i => ⟨sLoad_off (by simp) (fun q => by cases q), sLoad_off (by simp) (fun q => by cases q)⟩) (sLoad_off (by simp) (fun q => by cases q))
theorem cK.q {G : gG} {S : gS} {a i c : Nat} {l : List Nat} (h : cK G S) : cK G (sQ a i l c S) := h.of (fun _ _ _ _ => by rw [sQ_2]) (fun i => ⟨sQ_off (by simp) (fun q => by cases q) (fun q => by cases q), sQ_off (by simp) (fun q => by cases q) (fun q => by cases q)⟩) (sQ_off (by simp) (fun q => by cases q) (fun q => by cases q))
