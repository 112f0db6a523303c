/-! the reference's table and copy -/
def zTab (i : Nat) : List Nat → Nat → gS → gS
  | [], _, S => S
  | m :: l, c, S => zTab i l (c + 1) (zNews S c (nI m) (S.1 (27, 0, 0) (8 * i + m)) (S.1 (28, 0, 0) (8 * i + m)))
theorem zNews_off {S : gS} {c : Nat} {m s i : Int32} {k : gK} {f : Nat} (h22 : k ≠ (22, 0, 0)) : (zNews S c m s i).1 k f = S.1 k f := by
  unfold zNews
  rw [gI1, if_neg (fun q => h22 q.1), gI1, if_neg (fun q => h22 q.1), gI1, if_neg (fun q => h22 q.1), gI1, if_neg (fun q => h22 q.1)]
theorem zTab_app (i : Nat) : ∀ (l : List Nat) (m c : Nat) (S : gS), zTab i (l ++ [m]) c S = zNews (zTab i l c S) (c + l.length) (nI m) ((zTab i l c S).1 (27, 0, 0) (8 * i + m)) ((zTab i l c S).1 (28, 0, 0) (8 * i + m))
  | [], m, c, S => rfl
  | b :: l, m, c, S => by
    show zTab i (l ++ [m]) (c + 1) _ = zNews (zTab i l (c + 1) _) (c + (l.length + 1)) _ _ _
    rw [zTab_app i l m (c + 1)]
    have e : c + 1 + l.length = c + (l.length + 1) := by omega
    rw [e]; rfl
theorem zTab_off {i : Nat} {k : gK} {f : Nat} (h22 : k ≠ (22, 0, 0)) : ∀ {l : List Nat} {c : Nat} {S : gS}, (zTab i l c S).1 k f = S.1 k f
  | [], _, _ => rfl
  | m :: l, c, S => by
    show (zTab i l (c + 1) _).1 k f = _
    rw [zTab_off h22, zNews_off h22]
theorem zTab_2 {i : Nat} : ∀ {l : List Nat} {c : Nat} {S : gS}, (zTab i l c S).2 = S.2
  | [], _, _ => rfl
  | m :: l, c, S => by
    show (zTab i l (c + 1) _).2 = _
    rw [zTab_2]; rfl
theorem zNews_22 {S : gS} {c : Nat} {m s i : Int32} {x : Nat} : (zNews S c m s i).1 (22, 0, 0) x = if x = 6 then nI (c + 1) else if x = 7 + 3 * c + 2 then i else if x = 7 + 3 * c + 1 then s else if x = 7 + 3 * c then m else S.1 (22, 0, 0) x := by
  unfold zNews
  rw [gI1, gI1, gI1, gI1]
  simp only [true_and]
theorem zTab_22 {i : Nat} : ∀ {l : List Nat} {c : Nat} {S : gS}, S.1 (22, 0, 0) 6 = nI c → (∀ x, x < 7 + 3 * c → x ≠ 6 → (zTab i l c S).1 (22, 0, 0) x = S.1 (22, 0, 0) x) ∧ (zTab i l c S).1 (22, 0, 0) 6 = nI (c + l.length) ∧ ∀ t, t < l.length → (zTab i l c S).1 (22, 0, 0) (7 + 3 * (c + t)) = nI (l.getD t 0) ∧ (zTab i l c S).1 (22, 0, 0) (7 + 3 * (c + t) + 1) = S.1 (27, 0, 0) (8 * i + l.getD t 0) ∧ (zTab i l c S).1 (22, 0, 0) (7 + 3 * (c + t) + 2) = S.1 (28, 0, 0) (8 * i + l.getD t 0)
  | [], c, S, h => ⟨fun _ _ _ => rfl, h, fun t ht => by cases ht⟩
  | m :: l, c, S, h => by
    have h6 : (zNews S c (nI m) (S.1 (27, 0, 0) (8 * i + m)) (S.1 (28, 0, 0) (8 * i + m))).1 (22, 0, 0) 6 = nI (c + 1) := by rw [zNews_22, if_pos rfl]
    obtain ⟨h1, h2, h3⟩ := zTab_22 (i := i) (l := l) (c := c + 1) (S := zNews S c (nI m) (S.1 (27, 0, 0) (8 * i + m)) (S.1 (28, 0, 0) (8 * i + m))) h6
    have e : zTab i (m :: l) c S = zTab i l (c + 1) (zNews S c (nI m) (S.1 (27, 0, 0) (8 * i + m)) (S.1 (28, 0, 0) (8 * i + m))) := rfl
    rw [e]
    refine ⟨fun x hx hne => ?_, ?_, fun t ht => ?_⟩
    · rw [h1 x (by omega) hne, zNews_22, if_neg hne, if_neg (by omega), if_neg (by omega), if_neg (by omega)]
    · rw [h2]; congr 1; simp only [List.length_cons]; omega
    · cases t with
      | zero =>
        refine ⟨?_, ?_, ?_⟩
        · rw [h1 _ (by omega) (by omega), zNews_22, if_neg (by omega), if_neg (by omega), if_neg (by omega), if_pos (by omega)]; rfl
        · rw [h1 _ (by omega) (by omega), zNews_22, if_neg (by omega), if_neg (by omega), if_pos (by omega)]; rfl
        · rw [h1 _ (by omega) (by omega), zNews_22, if_neg (by omega), if_pos (by omega)]; rfl
      | succ t =>
        have := h3 t (by simpa using ht)
        have e2 : c + 1 + t = c + (t + 1) := by omega
        rw [e2, zNews_off (by simp), zNews_off (by simp)] at this
        exact this
def zTl (S : gS) (i k : Nat) : List Nat := (List.range k).filter (fun m => !decide (S.1 (27, 0, 0) (8 * i + m) ≤ 0))
theorem zTl_s (S : gS) (i k : Nat) : zTl S i (k + 1) = if S.1 (27, 0, 0) (8 * i + k) ≤ 0 then zTl S i k else zTl S i k ++ [k] := by
  unfold zTl
  rw [List.range_succ, List.filter_append]
  by_cases h : S.1 (27, 0, 0) (8 * i + k) ≤ 0 <;> simp [h]
theorem zTl_len (S : gS) (i k : Nat) : (zTl S i k).length ≤ k := by
  unfold zTl
  exact Nat.le_trans (List.length_filter_le _ _) (by simp)
/-- the first k numbers of 'taken' copied to a message's row -/
def zCopy (S : gS) (z k : Nat) : gS := (fun K x => if K = (21, 0, 0) ∧ 32 * z ≤ x ∧ x < 32 * z + k then S.1 (22, 0, 0) (x - 32 * z) else S.1 K x, S.2)
theorem zCopy_0 {S : gS} {z : Nat} : zCopy S z 0 = S := by
  refine Prod.ext ?_ rfl
  funext K x
  show (if _ then _ else _) = _
  rw [if_neg (by omega)]
theorem zCopy_o {S : gS} {z k : Nat} {K : gK} {x : Nat} (h : K ≠ (21, 0, 0)) : (zCopy S z k).1 K x = S.1 K x := if_neg (fun q => h q.1)
theorem zCopy_s {S : gS} {z k : Nat} : gI (zCopy S z k) (21, 0, 0) (32 * z + k) (S.1 (22, 0, 0) k) = zCopy S z (k + 1) := by
  refine Prod.ext ?_ rfl
  funext K x
  rw [gI1]
  show _ = (if K = (21, 0, 0) ∧ 32 * z ≤ x ∧ x < 32 * z + (k + 1) then S.1 (22, 0, 0) (x - 32 * z) else S.1 K x)
  by_cases e : K = (21, 0, 0)
  · subst e
    by_cases ex : x = 32 * z + k
    · subst ex
      rw [if_pos ⟨rfl, rfl⟩, if_pos ⟨rfl, by omega, by omega⟩]
      have e3 : 32 * z + k - 32 * z = k := by omega
      rw [e3]
    · rw [if_neg (fun q => ex q.2)]
      show (if _ then _ else _) = _
      by_cases n : 32 * z ≤ x ∧ x < 32 * z + k
      · rw [if_pos ⟨rfl, n⟩, if_pos ⟨rfl, n.1, by omega⟩]
      · rw [if_neg (fun q => n q.2), if_neg (by omega)]
  · rw [if_neg (fun q => e q.1), if_neg (fun q => e q.1)]
    exact zCopy_o e
def zHdr (S : gS) (kind s r no o g : Int32) : gS := gI (gI (gI (gI (gI (gI (gI S (22, 0, 0) 0 kind) (22, 0, 0) 1 s) (22, 0, 0) 2 r) (22, 0, 0) 3 no) (22, 0, 0) 4 o) (22, 0, 0) 5 g) (22, 0, 0) 6 0
theorem zHdr_o {S : gS} {kind s r no o g : Int32} {k : gK} {f : Nat} (h : k ≠ (22, 0, 0)) : (zHdr S kind s r no o g).1 k f = S.1 k f := by
  have h1 : ∀ x, ¬ (k = (22, 0, 0) ∧ f = x) := fun x q => h q.1
  unfold zHdr
  rw [gI1, if_neg (h1 _), gI1, if_neg (h1 _), gI1, if_neg (h1 _), gI1, if_neg (h1 _), gI1, if_neg (h1 _), gI1, if_neg (h1 _), gI1, if_neg (h1 _)]
theorem zHdr_f {S : gS} {kind s r no o g : Int32} : ∀ f, f < 7 → (zHdr S kind s r no o g).1 (22, 0, 0) f = [kind, s, r, no, o, g, 0].getD f 0 := by
  intro f hf
  match f, hf with
  | 0, _ => simp [zHdr, gI1]
  | 1, _ => simp [zHdr, gI1]
  | 2, _ => simp [zHdr, gI1]
  | 3, _ => simp [zHdr, gI1]
  | 4, _ => simp [zHdr, gI1]
  | 5, _ => simp [zHdr, gI1]
  | 6, _ => simp [zHdr, gI1]
  | f + 7, h => exact absurd h (by omega)
/-- behind the copy -/
def zPush (S : gS) (z : Nat) : gS := if z = 60 then S else gI (zCopy S z 32) (20, 0, 0) 2 (nI (z + 1))
