/-! the pure picture: numbers M.1 f i j (f: 0..4 an entry's, 10 + slot a node's, 30 cut, 31 now), relays of a node, messages on their way -/
abbrev mA : Type := Nat → Nat → Nat → Int32
abbrev mM : Type := mA × (Nat → List (List Int32)) × List (List Int32)
def mSet (M : mM) (f i j : Nat) (v : Int32) : mM := (fun f' i' j' => if f' = f ∧ i' = i ∧ j' = j then v else M.1 f' i' j', M.2)
def mRl (M : mM) (i : Nat) (r : List (List Int32)) : mM := (M.1, fun i' => if i' = i then r else M.2.1 i', M.2.2)
def mFl (M : mM) (l : List (List Int32)) : mM := (M.1, M.2.1, l)
def mNews (M : mM) (i : Nat) (l : List Nat) : List Int32 := l.flatMap (fun m => [nI m, M.1 0 i m, M.1 1 i m])
def mTable (n : Nat) (M : mM) (i : Nat) : List Nat := (List.range n).filter (fun m => !decide (M.1 0 i m = 0))
def mSpend (M : mM) (i : Nat) (l : List Nat) : mM := (fun f' i' j' => if f' = 4 ∧ i' = i ∧ j' ∈ l then M.1 4 i j' - 1 else M.1 f' i' j', M.2)
def mMsg (kind : Int32) (i to : Int32) (no orig goal : Int32) (c : Nat) (news : List Int32) : List Int32 := [kind, i, to, no, orig, goal, nI c] ++ news
def mPush (M : mM) (m : List Int32) : mM := if M.2.2.length = 60 then M else mFl M (M.2.2 ++ [m])
def mPk (n : Nat) (M : mM) (i : Nat) : List Nat := mPick n 3 (M.1 4 i)
def mSend (n : Nat) (M : mM) (kind : Int32) (i : Nat) (to no orig goal : Int32) : mM :=
  if kind = 6 ∨ kind = 7 then mPush M (mMsg kind (nI i) to no orig goal (mTable n M i).length (mNews M i (mTable n M i)))
  else mPush (mSpend M i (mPk n M i)) (mMsg kind (nI i) to no orig goal (mPk n M i).length (mNews M i (mPk n M i)))
theorem mPick_in {n : Nat} : ∀ {k : Nat} {q : Nat → Int32} {m : Nat}, m ∈ mPick n k q → m < n ∧ 0 < q m
  | 0, q, m, h => by cases h
  | k + 1, q, m, h => by
    rw [mPick] at h
    cases hb : mBest q n with
    | none => rw [hb] at h; cases h
    | some b =>
      rw [hb] at h
      rcases List.mem_cons.mp h with rfl | h
      · exact mBest_lt hb
      · have ih := mPick_in h
        by_cases e : m = b
        · rw [if_pos e] at ih; exact absurd ih.2 Int32.lt_irrefl
        · rw [if_neg e] at ih; exact ih
theorem mPick_nd {n : Nat} : ∀ {k : Nat} {q : Nat → Int32}, (mPick n k q).Nodup
  | 0, q => List.nodup_nil
  | k + 1, q => by
    rw [mPick]
    cases hb : mBest q n with
    | none => exact List.nodup_nil
    | some b =>
      refine List.nodup_cons.mpr ⟨fun h => ?_, mPick_nd⟩
      have := (mPick_in h).2
      rw [if_pos rfl] at this
      exact absurd this Int32.lt_irrefl
theorem mPick_len {n : Nat} : ∀ {k : Nat} {q : Nat → Int32}, (mPick n k q).length ≤ k
  | 0, q => Nat.le_refl _
  | k + 1, q => by
    rw [mPick]
    cases hb : mBest q n with
    | none => exact Nat.zero_le _
    | some b => exact Nat.succ_le_succ mPick_len
theorem mPick_congr {n : Nat} : ∀ {k : Nat} {q q' : Nat → Int32}, (∀ m, m < n → q m = q' m) → mPick n k q = mPick n k q'
  | 0, q, q', h => rfl
  | k + 1, q, q', h => by
    rw [mPick, mPick, mBest_congr h]
    cases hb : mBest q' n with
    | none => rfl
    | some b =>
      show b :: _ = b :: _
      rw [mPick_congr (k := k) (fun m hm => by rw [h m hm])]
theorem mTable_len {n : Nat} {M : mM} {i : Nat} : (mTable n M i).length ≤ n := by
  unfold mTable
  exact Nat.le_trans (List.length_filter_le _ _) (by simp)
theorem mTable_in {n : Nat} {M : mM} {i m : Nat} (h : m ∈ mTable n M i) : m < n := List.mem_range.mp (List.mem_filter.mp h).1
theorem mNews_at {M : mM} {i : Nat} : ∀ {l : List Nat} {t : Nat}, t < l.length → (mNews M i l).getD (3 * t) 0 = nI (l.getD t 0) ∧ (mNews M i l).getD (3 * t + 1) 0 = M.1 0 i (l.getD t 0) ∧ (mNews M i l).getD (3 * t + 2) 0 = M.1 1 i (l.getD t 0)
  | [], t, h => by cases h
  | m :: l, 0, h => ⟨rfl, rfl, rfl⟩
  | m :: l, t + 1, h => by
    have ih := mNews_at (M := M) (i := i) (l := l) (t := t) (by simpa using h)
    have e : ∀ x, (mNews M i (m :: l)).getD (3 * (t + 1) + x) 0 = (mNews M i l).getD (3 * t + x) 0 := by
      intro x
      show ([nI m, M.1 0 i m, M.1 1 i m] ++ mNews M i l).getD _ 0 = _
      have : 3 * (t + 1) + x = 3 * t + x + 3 := by omega
      rw [this]
      rfl
    refine ⟨?_, ?_, ?_⟩
    · exact (e 0).trans ih.1
    · exact (e 1).trans ih.2.1
    · exact (e 2).trans ih.2.2
theorem mNews_len {M : mM} {i : Nat} : ∀ {l : List Nat}, (mNews M i l).length = 3 * l.length
  | [] => rfl
  | m :: l => by
    show ([nI m, M.1 0 i m, M.1 1 i m] ++ mNews M i l).length = _
    rw [List.length_append, mNews_len]
    simp only [List.length_cons, List.length_nil]
    omega
/-! a message's cells -/
def isMsg (S : gS) (a : Nat) (m : List Int32) : Prop := ∃ c, c ≤ 8 ∧ m.length = 7 + 3 * c ∧ m.getD 6 0 = nI c ∧ (∀ f, f < 7 → S.1 (5, a, 0) f = m.getD f 0) ∧ ∀ j, j < 3 * c → S.1 (6, a, 0) j = m.getD (7 + j) 0
theorem isMsg.of {S S' : gS} {a : Nat} {m : List Int32} (h : isMsg S a m) (h5 : ∀ f, f < 7 → S'.1 (5, a, 0) f = S.1 (5, a, 0) f) (h6 : ∀ j, S'.1 (6, a, 0) j = S.1 (6, a, 0) j) : isMsg S' a m := by
  obtain ⟨c, h1, h2, h3, h4, h7⟩ := h
  exact ⟨c, h1, h2, h3, fun f hf => by rw [h5 f hf]; exact h4 f hf, fun j hj => by rw [h6 j]; exact h7 j hj⟩
theorem sCarry_n {S : gS} {a c i m : Nat} {j : Nat} : (sCarry S a c i m).1 (6, a, 0) j = if j = 3 * c + 2 then S.1 (9, i, m) 1 else if j = 3 * c + 1 then S.1 (9, i, m) 0 else if j = 3 * c then nI m else S.1 (6, a, 0) j := by
  unfold sCarry
  rw [gI1, if_neg (fun q => by simp at q), gI1, gI1, gI1]
  simp only [true_and]
theorem sCarry_o {S : gS} {a c i m a' : Nat} {j : Nat} (h : a' ≠ a) : (sCarry S a c i m).1 (6, a', 0) j = S.1 (6, a', 0) j := by
  unfold sCarry
  rw [gI1, if_neg (fun q => by simp at q), gI1, if_neg (fun q => h (by simpa using q.1)), gI1, if_neg (fun q => h (by simpa using q.1)), gI1, if_neg (fun q => h (by simpa using q.1))]
theorem sLoad_o {a i a' : Nat} (h : a' ≠ a) : ∀ {l : List Nat} {c : Nat} {S : gS} {j : Nat}, (sLoad a i l c S).1 (6, a', 0) j = S.1 (6, a', 0) j
  | [], _, _, _ => rfl
  | m :: l, c, S, j => by
    show (sLoad a i l (c + 1) _).1 _ j = _
    rw [sLoad_o h, sCarry_o h]
theorem sQ_o {a i a' : Nat} (h : a' ≠ a) : ∀ {l : List Nat} {c : Nat} {S : gS} {j : Nat}, (sQ a i l c S).1 (6, a', 0) j = S.1 (6, a', 0) j
  | [], _, _, _ => rfl
  | m :: l, c, S, j => by
    show (sQ a i l (c + 1) _).1 _ j = _
    rw [sQ_o h, gI1, if_neg (fun q => by simp at q), sCarry_o h]
theorem sLoad_n {a i : Nat} : ∀ {l : List Nat} {c : Nat} {S : gS}, (∀ j, j < 3 * c → (sLoad a i l c S).1 (6, a, 0) j = S.1 (6, a, 0) j) ∧ ∀ t, t < l.length → (sLoad a i l c S).1 (6, a, 0) (3 * (c + t)) = nI (l.getD t 0) ∧ (sLoad a i l c S).1 (6, a, 0) (3 * (c + t) + 1) = S.1 (9, i, l.getD t 0) 0 ∧ (sLoad a i l c S).1 (6, a, 0) (3 * (c + t) + 2) = S.1 (9, i, l.getD t 0) 1
  | [], c, S => ⟨fun _ _ => rfl, fun t h => by cases h⟩
  | m :: l, c, S => by
    obtain ⟨h1, h2⟩ := sLoad_n (a := a) (i := i) (l := l) (c := c + 1) (S := sCarry S a c i m)
    have e : sLoad a i (m :: l) c S = sLoad a i l (c + 1) (sCarry S a c i m) := rfl
    rw [e]
    refine ⟨fun j hj => ?_, fun t ht => ?_⟩
    · rw [h1 j (by omega), sCarry_n, if_neg (by omega), if_neg (by omega), if_neg (by omega)]
    · cases t with
      | zero =>
        refine ⟨?_, ?_, ?_⟩
        · rw [h1 _ (by omega), sCarry_n, if_neg (by omega), if_neg (by omega), if_pos (by omega)]; rfl
        · rw [h1 _ (by omega), sCarry_n, if_neg (by omega), if_pos (by omega)]; rfl
        · rw [h1 _ (by omega), sCarry_n, if_pos (by omega)]; rfl
      | succ t =>
        have := h2 t (by simpa using ht)
        have e2 : c + 1 + t = c + (t + 1) := by omega
        rw [e2, sCarry_off (by simp) (fun q => by cases q), sCarry_off (by simp) (fun q => by cases q)] at this
        exact this
theorem sQ_n {a i : Nat} : ∀ {l : List Nat} {c : Nat} {S : gS}, (∀ j, j < 3 * c → (sQ a i l c S).1 (6, a, 0) j = S.1 (6, a, 0) j) ∧ ∀ t, t < l.length → (sQ a i l c S).1 (6, a, 0) (3 * (c + t)) = nI (l.getD t 0) ∧ (sQ a i l c S).1 (6, a, 0) (3 * (c + t) + 1) = S.1 (9, i, l.getD t 0) 0 ∧ (sQ a i l c S).1 (6, a, 0) (3 * (c + t) + 2) = S.1 (9, i, l.getD t 0) 1
  | [], c, S => ⟨fun _ _ => rfl, fun t h => by cases h⟩
  | m :: l, c, S => by
    obtain ⟨h1, h2⟩ := sQ_n (a := a) (i := i) (l := l) (c := c + 1) (S := gI (sCarry S a c i m) (9, i, m) 4 (S.1 (9, i, m) 4 - 1))
    have e : sQ a i (m :: l) c S = sQ a i l (c + 1) (gI (sCarry S a c i m) (9, i, m) 4 (S.1 (9, i, m) 4 - 1)) := rfl
    have g6 : ∀ j, (gI (sCarry S a c i m) (9, i, m) 4 (S.1 (9, i, m) 4 - 1)).1 (6, a, 0) j = (sCarry S a c i m).1 (6, a, 0) j := fun j => by rw [gI1, if_neg (fun q => by simp at q)]
    rw [e]
    refine ⟨fun j hj => ?_, fun t ht => ?_⟩
    · rw [h1 j (by omega), g6, sCarry_n, if_neg (by omega), if_neg (by omega), if_neg (by omega)]
    · cases t with
      | zero =>
        refine ⟨?_, ?_, ?_⟩
        · rw [h1 _ (by omega), g6, sCarry_n, if_neg (by omega), if_neg (by omega), if_pos (by omega)]; rfl
        · rw [h1 _ (by omega), g6, sCarry_n, if_neg (by omega), if_pos (by omega)]; rfl
        · rw [h1 _ (by omega), g6, sCarry_n, if_pos (by omega)]; rfl
      | succ t =>
        have := h2 t (by simpa using ht)
        have e2 : c + 1 + t = c + (t + 1) := by omega
        rw [e2, gI1, if_neg (fun q => by simp at q), gI1, if_neg (fun q => by simp at q), sCarry_off (by simp) (fun q => by cases q), sCarry_off (by simp) (fun q => by cases q)] at this
        exact this
theorem sQ_s {a i : Nat} : ∀ {l : List Nat} {c : Nat} {S : gS} {m : Nat}, l.Nodup → (sQ a i l c S).1 (9, i, m) 4 = if m ∈ l then S.1 (9, i, m) 4 - 1 else S.1 (9, i, m) 4
  | [], _, _, _, _ => rfl
  | b :: l, c, S, m, h => by
    obtain ⟨hb, hl⟩ := List.nodup_cons.mp h
    show (sQ a i l (c + 1) _).1 _ 4 = _
    rw [sQ_s hl]
    have e1 : (gI (sCarry S a c i b) (9, i, b) 4 (S.1 (9, i, b) 4 - 1)).1 (9, i, m) 4 = if m = b then S.1 (9, i, b) 4 - 1 else S.1 (9, i, m) 4 := by
      rw [gI1]
      by_cases e : m = b
      · subst e; rw [if_pos ⟨rfl, rfl⟩, if_pos rfl]
      · rw [if_neg (fun q => e (by simpa using q)), if_neg e, sCarry_off (by simp) (fun q => by cases q)]
    rw [e1]
    by_cases e : m = b
    · subst e
      rw [if_neg hb, if_pos rfl, if_pos List.mem_cons_self]
    · by_cases e2 : m ∈ l
      · rw [if_pos e2, if_neg e, if_pos (List.mem_cons_of_mem _ e2)]
      · rw [if_neg e2, if_neg e, if_neg (fun q => by rcases List.mem_cons.mp q with q | q; exact e q; exact e2 q)]
/-! the class's cells hold M; p messages are landed and not yet taken, the first of them at place i0 -/
def CF (S : gS) (fl : List (List Int32)) (p i0 : Nat) (kc : Option (Nat × List Int32)) : Prop := ∃ (b : Nat) (σ : Nat → Nat → Nat), b < 2 ∧ S.2 (3, 0, 0) 0 = some (4, b, 0) ∧ S.2 (3, 0, 0) 1 = some (4, 1 - b, 0) ∧ (∀ c k, c < 2 → k < 60 → S.2 (4, c, 0) k = some (5, σ c k, 0) ∧ σ c k < 120) ∧
  (∀ c k c' k', c < 2 → k < 60 → c' < 2 → k' < 60 → σ c k = σ c' k' → c = c' ∧ k = k') ∧ p ≤ fl.length ∧ fl.length - p ≤ 60 ∧ S.1 (3, 0, 0) 3 = nI (fl.length - p) ∧ (∀ k, k < fl.length - p → isMsg S (σ b k) (fl.getD (p + k) [])) ∧ i0 + p ≤ 60 ∧ (∀ q, q < p → isMsg S (σ (1 - b) (i0 + q)) (fl.getD q [])) ∧ ∀ a msg, kc = some (a, msg) → 1 ≤ i0 ∧ σ (1 - b) (i0 - 1) = a ∧ isMsg S a msg
def CL (S : gS) (i : Nat) (r : List (List Int32)) : Prop := ∃ ρ : Nat → Nat, r.length ≤ 4 ∧ S.1 (7, i, 0) 8 = nI r.length ∧ (∀ k, k < 4 → S.2 (10, i, 0) k = some (11, i, ρ k) ∧ ρ k < 4) ∧ (∀ k k', k < 4 → k' < 4 → ρ k = ρ k' → k = k') ∧ ∀ k, k < r.length → ∀ f, f < 4 → S.1 (11, i, ρ k) f = (r.getD k []).getD f 0
def CC (G : gG) (M : mM) (S : gS) : Prop := (∀ i, i < G.1 → ∃ l, isMk (S.1 (2, 0, 0) i) l ∧ ∀ j, j < G.1 → (j ∈ l ↔ M.1 30 i j = 1)) ∧ S.1 (0, 0, 0) 4 = M.1 31 0 0
def CR (G : gG) (M : mM) (p i0 : Nat) (kc : Option (Nat × List Int32)) (S : gS) : Prop := cK G S ∧ (∀ i j f, i < G.1 → j < G.1 → f < 5 → S.1 (9, i, j) f = M.1 f i j) ∧ (∀ i f, i < G.1 → 5 ≤ f → f < 18 → f ≠ 8 → S.1 (7, i, 0) f = M.1 (10 + f) i 0) ∧ (∀ i, i < G.1 → CL S i (M.2.1 i)) ∧ CC G M S ∧ CF S M.2.2 p i0 kc
/-- the reference's cells are as they were -/
def gFr (S S' : gS) : Prop := ∀ k : gK, 20 ≤ k.1 → S'.1 k = S.1 k ∧ S'.2 k = S.2 k
theorem gFr.rf {S : gS} : gFr S S := fun _ _ => ⟨rfl, rfl⟩
theorem gFr.tr {S S' S'' : gS} (h : gFr S S') (h2 : gFr S' S'') : gFr S S'' := fun k hk => ⟨(h2 k hk).1.trans (h k hk).1, (h2 k hk).2.trans (h k hk).2⟩
theorem gFr.I {S : gS} {k : gK} {f : Nat} {v : Int32} (h : k.1 < 20) : gFr S (gI S k f v) := fun k' hk' => ⟨funext fun f' => by rw [gI1, if_neg (fun q => by rw [q.1] at hk'; omega)], rfl⟩
theorem gFr.X {S : gS} {k : gK} {f : Nat} {v : Option gK} (h : k.1 < 20) : gFr S (gX S k f v) := fun k' hk' => ⟨rfl, funext fun f' => by rw [gX2, if_neg (fun q => by rw [q.1] at hk'; omega)]⟩
