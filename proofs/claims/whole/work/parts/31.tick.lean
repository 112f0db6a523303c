/-! cut, and a tick -/
theorem isMk_xd : ∀ x, x < 256 → ∀ b, b < 8 → nI x ^^^ (1 <<< (nI b &&& 31)) = nI (x ^^^ (2 ^ b)) ∧ x ^^^ (2 ^ b) < 256 ∧ ∀ m, m < 8 → ((nI (x ^^^ (2 ^ b)) >>> (nI m &&& 31)) &&& 1 = 0 ↔ if m = b then ¬ (nI x >>> (nI m &&& 31)) &&& 1 = 0 else (nI x >>> (nI m &&& 31)) &&& 1 = 0) := by decide +kernel
theorem isMk_xor {x : Int32} {l : List Nat} {b : Nat} (h : isMk x l) (hb : b < 8) : ∃ l', isMk (x ^^^ (1 <<< (nI b &&& 31))) l' ∧ ∀ m, m < 8 → (m ∈ l' ↔ if m = b then m ∉ l else m ∈ l) := by
  obtain ⟨y, hy, rfl, hm⟩ := h
  obtain ⟨e, h2, h3⟩ := isMk_xd y hy b hb
  refine ⟨(List.range 8).filter (fun m => !decide ((nI (y ^^^ 2 ^ b) >>> (nI m &&& 31)) &&& 1 = 0)), ⟨y ^^^ 2 ^ b, h2, e, fun m hm8 => ?_⟩, fun m hm8 => ?_⟩
  · rw [e]
    simp [hm8]
  · have := h3 m hm8
    simp only [List.mem_filter, List.mem_range, hm8, true_and, Bool.not_eq_true', decide_eq_false_iff_not, this]
    by_cases q : m = b
    · simp only [q, if_true]
      rw [← q, hm m hm8]
      constructor
      · intro z; exact Classical.byContradiction (fun y => z (fun w => y w))
      · intro z w; exact w z
    · simp only [q, if_false]
      rw [hm m hm8]
      constructor
      · intro z; exact Classical.byContradiction (fun y => z y)
      · intro z w; exact w z
theorem CR.cutX {G : gG} {M : mM} {p i0 : Nat} {kc : Option (Nat × List Int32)} {S : gS} (h : CR G M p i0 kc S) {a b : Nat} {v : Int32} (ha : a < G.1) (hb : b < G.1) (hv : v = 1 ↔ ¬ M.1 30 a b = 1) :
    CR G (mSet M 30 a b v) p i0 kc (gI S (2, 0, 0) a (S.1 (2, 0, 0) a ^^^ (1 <<< (nI b &&& 31)))) ∧ gFr S (gI S (2, 0, 0) a (S.1 (2, 0, 0) a ^^^ (1 <<< (nI b &&& 31)))) := by
  obtain ⟨hK, hE, hN, hL, hC, hF⟩ := h
  have h8 := hK.2.1
  refine ⟨⟨hK.I (by simp), ?_, ?_, ?_, ⟨?_, ?_⟩, ?_⟩, gFr.I (by simp)⟩
  · intro i' j' f' hi' hj' hf'
    rw [gI1, if_neg (fun z => by simp at z), hE i' j' f' hi' hj' hf', mSet_ne (by omega)]
  · intro i' f' hi' h5 h18 h8'
    rw [gI1, if_neg (fun z => by simp at z), hN i' f' hi' h5 h18 h8', mSet_ne (by omega)]
  · intro i' hi'
    exact (hL i' hi').of (by rw [gI1, if_neg (fun z => by simp at z)]) (fun _ => rfl) (fun k f => by rw [gI1, if_neg (fun z => by simp at z)])
  · intro i' hi'
    obtain ⟨l, h1, h2⟩ := hC.1 i' hi'
    by_cases e : i' = a
    · subst e
      obtain ⟨l', x1, x2⟩ := isMk_xor h1 (b := b) (by omega)
      refine ⟨l', by rw [gI1, if_pos ⟨rfl, rfl⟩]; exact x1, fun j hj => ?_⟩
      rw [x2 j (by omega)]
      by_cases q : j = b
      · subst q
        rw [if_pos rfl, mSet_eq, hv, h2 j hj]
      · rw [if_neg q, mSet_ne (by omega)]; exact h2 j hj
    · refine ⟨l, by rw [gI1, if_neg (fun z => e z.2)]; exact h1, fun j hj => ?_⟩
      rw [mSet_ne (by omega)]; exact h2 j hj
  · rw [gI1, if_neg (fun z => by simp at z), hC.2, mSet_ne (by omega)]
  · exact hF.of (fun _ => rfl) (fun _ _ => rfl) (by rw [gI1, if_neg (fun z => by simp at z)]) (fun a f => by rw [gI1, if_neg (fun z => by simp at z)]) (fun a j => by rw [gI1, if_neg (fun z => by simp at z)])
/-- the clock goes on -/
theorem CR.time {G : gG} {M : mM} {p i0 : Nat} {kc : Option (Nat × List Int32)} {S : gS} (h : CR G M p i0 kc S) (v : Int32) : CR G (mSet M 31 0 0 v) p i0 kc (gI S (0, 0, 0) 4 v) ∧ gFr S (gI S (0, 0, 0) 4 v) := by
  obtain ⟨hK, hE, hN, hL, hC, hF⟩ := h
  refine ⟨⟨hK.of (fun _ _ _ _ => rfl) (fun i => ⟨?_, ?_⟩) ?_, ?_, ?_, ?_, ⟨?_, ?_⟩, ?_⟩, gFr.I (by simp)⟩
  · rw [gI1, if_neg (fun z => by simp at z)]
  · rw [gI1, if_neg (fun z => by simp at z)]
  · rw [gI1, if_neg (fun z => by simp at z)]
  · intro i' j' f' hi' hj' hf'
    rw [gI1, if_neg (fun z => by simp at z), hE i' j' f' hi' hj' hf', mSet_ne (by omega)]
  · intro i' f' hi' h5 h18 h8'
    rw [gI1, if_neg (fun z => by simp at z), hN i' f' hi' h5 h18 h8', mSet_ne (by omega)]
  · intro i' hi'
    exact (hL i' hi').of (by rw [gI1, if_neg (fun z => by simp at z)]) (fun _ => rfl) (fun k f => by rw [gI1, if_neg (fun z => by simp at z)])
  · intro i' hi'
    obtain ⟨l, h1, h2⟩ := hC.1 i' hi'
    exact ⟨l, by rw [gI1, if_neg (fun z => by simp at z)]; exact h1, fun j hj => by rw [h2 j hj, mSet_ne (by omega)]⟩
  · rw [gI1, if_pos ⟨rfl, rfl⟩, mSet_eq]
  · exact hF.of (fun _ => rfl) (fun _ _ => rfl) (by rw [gI1, if_neg (fun z => by simp at z)]) (fun a f => by rw [gI1, if_neg (fun z => by simp at z)]) (fun a j => by rw [gI1, if_neg (fun z => by simp at z)])
def mDel1 (n : Nat) (M : mM) : Bool × mM :=
  let msg := M.2.2.headD []
  if M.1 15 (msg.getD 2 0).toNatClampNeg 0 ≠ 0 ∧ mCutB M (msg.getD 1 0).toNatClampNeg (msg.getD 2 0).toNatClampNeg = false then (true, mRecv n (mFl M M.2.2.tail) (msg.getD 2 0).toNatClampNeg msg (M.1 31 0 0)) else (false, mFl M M.2.2.tail)
def mDelF (n : Nat) : Nat → mM → Int32 → mM × Int32
  | 0, M, c => (M, c)
  | p + 1, M, c => mDelF n p (mDel1 n M).2 (if (mDel1 n M).1 = true then c + 1 else c)
def mDelOk (n : Nat) : Nat → mM → Prop
  | 0, _ => True
  | p + 1, M => mWf n (M.2.2.headD []) ∧ M.2.2.tail.length < 60 ∧ mDelOk n p (mDel1 n M).2
def mTims (n : Nat) : Nat → mM → mM
  | 0, M => M
  | k + 1, M => if (mTims n k M).1 15 k 0 = 0 then mTims n k M else mTimer n (mTims n k M) k ((mTims n k M).1 31 0 0)
def mClk (M : mM) : mM := mSet M 31 0 0 (M.1 31 0 0 + 1)
def mTick (n : Nat) (q : mM × Int32) : mM × Int32 := (mTims n n (mDelF n q.1.2.2.length (mClk q.1) 0).1, q.2 + (mDelF n q.1.2.2.length (mClk q.1) 0).2)
def mTicks (n : Nat) : Nat → mM × Int32 → mM × Int32
  | 0, q => q
  | t + 1, q => mTick n (mTicks n t q)
/-- what a tick of the class rests on -/
def mTickOk (n : Nat) (M : mM) : Prop := mDelOk n M.2.2.length (mClk M) ∧ ∀ k, k < n → (mTims n k (mDelF n M.2.2.length (mClk M) 0).1).1 15 k 0 ≠ 0 → mNi n (mTims n k (mDelF n M.2.2.length (mClk M) 0).1) k
def oTicks (n : Nat) (M : mM) (x : Int32) : mM × Int32 := if x < 0 ∨ 100 < x then (M, -1) else mTicks n x.toNatClampNeg (M, 0)
