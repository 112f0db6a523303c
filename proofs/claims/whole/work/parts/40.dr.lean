/-! the reference's cells hold M -/
theorem ix8 (i j : Nat) : (8 : Int32) * nI i + nI j = nI (8 * i + j) := (congrArg (fun z => z + nI j) (pk_mul 8 i)).trans (nI_add _ _)
theorem ix4 (i j : Nat) : (4 : Int32) * nI i + nI j = nI (4 * i + j) := (congrArg (fun z => z + nI j) (pk_mul 4 i)).trans (nI_add _ _)
theorem ix16 (i j : Nat) : (16 : Int32) * nI i + nI j = nI (16 * i + j) := (congrArg (fun z => z + nI j) (pk_mul 16 i)).trans (nI_add _ _)
theorem ix32 (i j : Nat) : (32 : Int32) * nI i + nI j = nI (32 * i + j) := (congrArg (fun z => z + nI j) (pk_mul 32 i)).trans (nI_add _ _)
theorem ix9 (i : Nat) : (9 : Int32) * nI i = nI (9 * i) := pk_mul 9 i
def mRn (M : mM) (i : Nat) : Prop := M.1 15 i 0 ≠ 0
def C64 (G : gG) (S : gS) (M : mM) (K f : Nat) (Pr : Nat → Nat → Prop) : Prop := ∀ i j, i < G.1 → j < G.1 → Pr i j → S.1 (K, 0, 0) (8 * i + j) = M.1 f i j
def C8 (G : gG) (S : gS) (M : mM) (K f : Nat) (Pr : Nat → Prop) : Prop := ∀ i, i < G.1 → Pr i → S.1 (K, 0, 0) i = M.1 f i 0
def DFl (S : gS) (fl : List (List Int32)) : Prop := S.1 (20, 0, 0) 2 = nI fl.length ∧ fl.length ≤ 60 ∧ ∀ k, k < fl.length → (fl.getD k []).length ≤ 32 ∧ ∀ j, j < (fl.getD k []).length → S.1 (21, 0, 0) (32 * k + j) = (fl.getD k []).getD j 0
def DLr (G : gG) (S : gS) (M : mM) : Prop := ∀ i, i < G.1 → mRn M i → S.1 (34, 0, 0) i = nI (M.2.1 i).length ∧ (M.2.1 i).length ≤ 4 ∧ ∀ k, k < (M.2.1 i).length → ∀ f, f < 4 → S.1 (35, 0, 0) (16 * i + 4 * k + f) = ((M.2.1 i).getD k []).getD f 0
def DPb (G : gG) (S : gS) (M : mM) : Prop := ∀ i, i < G.1 → mRn M i → S.1 (36, 0, 0) i = bI (decide (M.1 21 i 0 ≠ -1))
def mPb (M : mM) (i : Nat) : Prop := mRn M i ∧ M.1 21 i 0 ≠ -1
def mOw (M : mM) (ow : Nat → Bool) (i j : Nat) : Prop := mRn M i ∧ ¬ (ow i = true ∧ j = i)
def mNw (M : mM) (i j : Nat) : Prop := mRn M i ∧ 0 < M.1 4 i j
def DR (G : gG) (M : mM) (ow : Nat → Bool) (S : gS) : Prop :=
  gSt G S ∧ (G.1 ≤ 8 ∧ 2 ≤ G.1) ∧ S.1 (20, 0, 0) 0 = nI G.1 ∧ S.1 (20, 0, 0) 1 = M.1 31 0 0 ∧ DFl S M.2.2 ∧ C64 G S M 23 30 (fun _ _ => True) ∧ C8 G S M 24 15 (fun _ => True) ∧
  C8 G S M 25 16 (mRn M) ∧ C8 G S M 26 17 (mRn M) ∧ C8 G S M 40 20 (mRn M) ∧ C8 G S M 41 19 (mRn M) ∧ C8 G S M 44 22 (mRn M) ∧ C8 G S M 45 27 (mRn M) ∧
  DPb G S M ∧ C8 G S M 37 21 (mPb M) ∧ C8 G S M 38 23 (mPb M) ∧ C8 G S M 39 24 (mPb M) ∧ C8 G S M 42 25 (mPb M) ∧ C8 G S M 43 26 (mPb M) ∧
  DLr G S M ∧ C64 G S M 27 0 (mOw M ow) ∧ C64 G S M 28 1 (fun i _ => mRn M i) ∧ C64 G S M 29 2 (mOw M ow) ∧ C64 G S M 30 3 (mOw M ow) ∧ C64 G S M 31 4 (fun i _ => mRn M i) ∧ C64 G S M 32 0 (mNw M) ∧ C64 G S M 33 1 (mNw M)
/-- the class's cells are as they were -/
def gFc (S S' : gS) : Prop := ∀ k : gK, k.1 < 20 → S'.1 k = S.1 k ∧ S'.2 k = S.2 k
theorem gFc.rf {S : gS} : gFc S S := fun _ _ => ⟨rfl, rfl⟩
theorem gFc.tr {S S' S'' : gS} (h : gFc S S') (h2 : gFc S' S'') : gFc S S'' := fun k hk => ⟨(h2 k hk).1.trans (h k hk).1, (h2 k hk).2.trans (h k hk).2⟩
theorem gFc.I {S : gS} {k : gK} {f : Nat} {v : Int32} (h : 20 ≤ k.1) : gFc S (gI S k f v) := fun k' hk' => ⟨funext fun f' => by rw [gI1, if_neg (fun q => by rw [q.1] at hk'; omega)], rfl⟩
/-! the queue -/
theorem mBest_np {q q' : Nat → Int32} : ∀ {k : Nat}, (∀ m, m < k → q m = q' m ∨ (¬ 0 < q m ∧ ¬ 0 < q' m)) → mBest q k = mBest q' k
  | 0, _ => rfl
  | k + 1, h => by
    have ih := mBest_np (k := k) (fun m hm => h m (by omega))
    rw [mBest_step, mBest_step, ← ih]
    have hv : mV q (mBest q k) = mV q' (mBest q k) := by
      cases hb : mBest q k with
      | none => rfl
      | some b =>
        rw [mV, mV]
        have := mBest_lt hb
        rcases h b (by omega) with e | e
        · exact e
        · exact absurd this.2 e.1
    have hpos : ¬ mV q (mBest q k) < 0 := by
      cases hb : mBest q k with
      | none => exact Int32.lt_irrefl
      | some b => exact fun z => absurd (mBest_lt hb).2 (Int32.lt_asymm z)
    rw [← hv]
    rcases h k (by omega) with e | e
    · rw [e]
    · have f1 : ∀ x : Int32, ¬ 0 < x → ¬ mV q (mBest q k) < x := fun x hx z => by
        have h0 : 0 ≤ mV q (mBest q k) := Int32.not_lt.mp hpos
        exact hx (Int32.lt_of_le_of_lt h0 z)
      rw [if_neg (f1 _ e.1), if_neg (f1 _ e.2)]
def zNews (S : gS) (c : Nat) (m s i : Int32) : gS := gI (gI (gI (gI S (22, 0, 0) (7 + 3 * c) m) (22, 0, 0) (7 + 3 * c + 1) s) (22, 0, 0) (7 + 3 * c + 2) i) (22, 0, 0) 6 (nI (c + 1))
/-- one that is chosen: its news goes along, its sendings are negated -/
def zPick (S : gS) (i c m : Nat) : gS := gI (zNews S c (nI m) (S.1 (32, 0, 0) (8 * i + m)) (S.1 (33, 0, 0) (8 * i + m))) (31, 0, 0) (8 * i + m) (-(S.1 (31, 0, 0) (8 * i + m)))
def zQ (i : Nat) : List Nat → Nat → gS → gS
  | [], _, S => S
  | m :: l, c, S => zQ i l (c + 1) (zPick S i c m)
theorem zQ_app (i : Nat) : ∀ (l : List Nat) (m c : Nat) (S : gS), zQ i (l ++ [m]) c S = zPick (zQ i l c S) i (c + l.length) m
  | [], m, c, S => rfl
  | b :: l, m, c, S => by
    show zQ i (l ++ [m]) (c + 1) _ = zPick (zQ i l (c + 1) _) i (c + (l.length + 1)) m
    rw [zQ_app i l m (c + 1)]
    congr 1
    omega
theorem zPick_off {S : gS} {i c m : Nat} {k : gK} {f : Nat} (h22 : k ≠ (22, 0, 0)) (h31 : k ≠ (31, 0, 0)) : (zPick S i c m).1 k f = S.1 k f := by
  unfold zPick zNews
  rw [gI1, if_neg (fun q => h31 q.1), gI1, if_neg (fun q => h22 q.1), gI1, if_neg (fun q => h22 q.1), gI1, if_neg (fun q => h22 q.1), gI1, if_neg (fun q => h22 q.1)]
theorem zQ_off {i : Nat} {k : gK} {f : Nat} (h22 : k ≠ (22, 0, 0)) (h31 : k ≠ (31, 0, 0)) : ∀ {l : List Nat} {c : Nat} {S : gS}, (zQ i l c S).1 k f = S.1 k f
  | [], _, _ => rfl
  | m :: l, c, S => by
    show (zQ i l (c + 1) _).1 k f = _
    rw [zQ_off h22 h31, zPick_off h22 h31]
theorem zQ_2 {i : Nat} : ∀ {l : List Nat} {c : Nat} {S : gS}, (zQ i l c S).2 = S.2
  | [], _, _ => rfl
  | m :: l, c, S => by
    show (zQ i l (c + 1) _).2 = _
    rw [zQ_2]; rfl
theorem zPick_31 {S : gS} {i c m x : Nat} : (zPick S i c m).1 (31, 0, 0) x = if x = 8 * i + m then -(S.1 (31, 0, 0) x) else S.1 (31, 0, 0) x := by
  unfold zPick zNews
  rw [gI1]
  by_cases e : x = 8 * i + m
  · subst e; rw [if_pos ⟨rfl, rfl⟩, if_pos rfl]
  · rw [if_neg (fun q => e q.2), if_neg e, gI1, if_neg (fun q => by simp at q), gI1, if_neg (fun q => by simp at q), gI1, if_neg (fun q => by simp at q), gI1, if_neg (fun q => by simp at q)]
theorem zQ_31 {i : Nat} : ∀ {l : List Nat} {c : Nat} {S : gS} {x : Nat}, l.Nodup → (zQ i l c S).1 (31, 0, 0) x = if ∃ m ∈ l, x = 8 * i + m then -(S.1 (31, 0, 0) x) else S.1 (31, 0, 0) x
  | [], c, S, x, _ => by simp [zQ]
  | b :: l, c, S, x, h => by
    obtain ⟨hb, hl⟩ := List.nodup_cons.mp h
    show (zQ i l (c + 1) (zPick S i c b)).1 _ x = _
    rw [zQ_31 hl, zPick_31]
    by_cases e : x = 8 * i + b
    · have n1 : ¬ ∃ m ∈ l, x = 8 * i + m := by
        rintro ⟨m, hm, q⟩
        have em : m = b := by omega
        rw [em] at hm
        exact hb hm
      rw [if_neg n1, if_pos e, if_pos ⟨b, List.mem_cons_self, e⟩]
    · rw [if_neg e]
      by_cases n1 : ∃ m ∈ l, x = 8 * i + m
      · rw [if_pos n1, if_pos (by obtain ⟨m, hm, q⟩ := n1; exact ⟨m, List.mem_cons_of_mem _ hm, q⟩)]
      · rw [if_neg n1, if_neg (fun ⟨m, hm, q⟩ => by rcases List.mem_cons.mp hm with z | z; exact e (by rw [q, z]); exact n1 ⟨m, z, q⟩)]
theorem zPick_22 {S : gS} {i c m x : Nat} : (zPick S i c m).1 (22, 0, 0) x = if x = 6 then nI (c + 1) else if x = 7 + 3 * c + 2 then S.1 (33, 0, 0) (8 * i + m) else if x = 7 + 3 * c + 1 then S.1 (32, 0, 0) (8 * i + m) else if x = 7 + 3 * c then nI m else S.1 (22, 0, 0) x := by
  unfold zPick zNews
  rw [gI1, if_neg (fun q => by simp at q), gI1, gI1, gI1, gI1]
  simp only [true_and]
theorem zQ_22 {i : Nat} : ∀ {l : List Nat} {c : Nat} {S : gS}, S.1 (22, 0, 0) 6 = nI c → (∀ x, x < 7 + 3 * c → x ≠ 6 → (zQ i l c S).1 (22, 0, 0) x = S.1 (22, 0, 0) x) ∧ (zQ i l c S).1 (22, 0, 0) 6 = nI (c + l.length) ∧ ∀ t, t < l.length → (zQ i l c S).1 (22, 0, 0) (7 + 3 * (c + t)) = nI (l.getD t 0) ∧ (zQ i l c S).1 (22, 0, 0) (7 + 3 * (c + t) + 1) = S.1 (32, 0, 0) (8 * i + l.getD t 0) ∧ (zQ i l c S).1 (22, 0, 0) (7 + 3 * (c + t) + 2) = S.1 (33, 0, 0) (8 * i + l.getD t 0)
  | [], c, S, h => ⟨fun _ _ _ => rfl, h, fun t ht => by cases ht⟩
  | m :: l, c, S, h => by
    have h6 : (zPick S i c m).1 (22, 0, 0) 6 = nI (c + 1) := by rw [zPick_22, if_pos rfl]
    obtain ⟨h1, h2, h3⟩ := zQ_22 (i := i) (l := l) (c := c + 1) (S := zPick S i c m) h6
    have e : zQ i (m :: l) c S = zQ i l (c + 1) (zPick S i c m) := rfl
    rw [e]
    refine ⟨fun x hx hne => ?_, ?_, fun t ht => ?_⟩
    · rw [h1 x (by omega) hne, zPick_22, if_neg hne, if_neg (by omega), if_neg (by omega), if_neg (by omega)]
    · rw [h2]; congr 1; simp only [List.length_cons]; omega
    · cases t with
      | zero =>
        refine ⟨?_, ?_, ?_⟩
        · rw [h1 _ (by omega) (by omega), zPick_22, if_neg (by omega), if_neg (by omega), if_neg (by omega), if_pos (by omega)]; rfl
        · rw [h1 _ (by omega) (by omega), zPick_22, if_neg (by omega), if_neg (by omega), if_pos (by omega)]; rfl
        · rw [h1 _ (by omega) (by omega), zPick_22, if_neg (by omega), if_pos (by omega)]; rfl
      | succ t =>
        have := h3 t (by simpa using ht)
        have e2 : c + 1 + t = c + (t + 1) := by omega
        rw [e2, zPick_off (by simp) (by simp), zPick_off (by simp) (by simp)] at this
        exact this
/-- the queue put right again: below k -/
def zFix (S : gS) (i k : Nat) : gS := (fun K x => if K = (31, 0, 0) ∧ (∃ m, m < k ∧ x = 8 * i + m) ∧ S.1 (31, 0, 0) x < 0 then -(S.1 (31, 0, 0) x) - 1 else S.1 K x, S.2)
theorem zFix_0 {S : gS} {i : Nat} : zFix S i 0 = S := by
  refine Prod.ext ?_ rfl
  funext K x
  show (if _ then _ else _) = _
  rw [if_neg (fun q => by obtain ⟨m, hm, -⟩ := q.2.1; omega)]
theorem zFix_o {S : gS} {i k : Nat} {K : gK} {x : Nat} (h : K ≠ (31, 0, 0)) : (zFix S i k).1 K x = S.1 K x := if_neg (fun q => h q.1)
theorem zFix_s {S : gS} {i k : Nat} {v : Int32} (hv : v = if S.1 (31, 0, 0) (8 * i + k) < 0 then -(S.1 (31, 0, 0) (8 * i + k)) - 1 else S.1 (31, 0, 0) (8 * i + k)) : gI (zFix S i k) (31, 0, 0) (8 * i + k) v = zFix S i (k + 1) := by
  refine Prod.ext ?_ rfl
  funext K x
  rw [gI1]
  show _ = (if K = (31, 0, 0) ∧ (∃ m, m < k + 1 ∧ x = 8 * i + m) ∧ S.1 (31, 0, 0) x < 0 then -(S.1 (31, 0, 0) x) - 1 else S.1 K x)
  by_cases e : K = (31, 0, 0)
  · subst e
    by_cases ex : x = 8 * i + k
    · subst ex
      rw [if_pos ⟨rfl, rfl⟩, hv]
      by_cases n : S.1 (31, 0, 0) (8 * i + k) < 0
      · rw [if_pos n, if_pos ⟨rfl, ⟨k, by omega, rfl⟩, n⟩]
      · rw [if_neg n, if_neg (fun q => n q.2.2)]
    · rw [if_neg (fun q => ex q.2)]
      show (if _ then _ else _) = _
      by_cases n : (∃ m, m < k ∧ x = 8 * i + m) ∧ S.1 (31, 0, 0) x < 0
      · obtain ⟨⟨m, hm, q⟩, n2⟩ := n
        rw [if_pos ⟨rfl, ⟨m, hm, q⟩, n2⟩, if_pos ⟨rfl, ⟨m, by omega, q⟩, n2⟩]
      · rw [if_neg (fun q => n ⟨q.2.1, q.2.2⟩), if_neg (fun q => n ⟨by
          obtain ⟨m, hm, z⟩ := q.2.1
          exact ⟨m, by omega, z⟩, q.2.2⟩)]
  · rw [if_neg (fun q => e q.1), if_neg (fun q => e q.1)]
    exact zFix_o e
