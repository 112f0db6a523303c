/-! the calls' pure picture -/
def mIs (n : Nat) (x : Int32) : Bool := decide (0 ≤ x ∧ x < nI n)
theorem mIs_iff {n : Nat} {x : Int32} (hn : n < 2 ^ 31) : mIs n x = true ↔ ∃ j, j < n ∧ x = nI j := by
  unfold mIs
  rw [decide_eq_true_iff]
  constructor
  · intro h
    rcases pk_ix x hn with q | q | q
    · exact absurd h.1 (Int32.not_le.mpr q)
    · exact absurd h.2 (Int32.not_lt.mpr q)
    · exact q
  · rintro ⟨j, hj, rfl⟩
    exact ⟨nI_pos' (by omega), nI_lt hj hn⟩
def mRun (n : Nat) (M : mM) (x : Int32) : Bool := mIs n x && !decide (M.1 15 x.toNatClampNeg 0 = 0)
def mForget (M : mM) (i : Nat) : Nat → mM
  | 0 => M
  | k + 1 => mSet (mSet (mSet (mSet (mSet (mForget M i k) 0 i k 0) 1 i k 0) 2 i k 0) 3 i k 0) 4 i k 0
def mBegin (n : Nat) (M : mM) (i : Nat) (w : Int32) : mM :=
  let M1 := mBecome (mForget M i n) i i 1 0 w
  let M2 := mRl (mSet (mSet (mSet M1 15 i 0 1) 16 i 0 w) 17 i 0 0) i []
  mSet (mSet (mSet (mSet (mSet (mSet (mSet (mSet (mSet M2 19 i 0 2) 20 i 0 0) 21 i 0 (-1)) 22 i 0 (nI i)) 23 i 0 0) 24 i 0 0) 25 i 0 0) 26 i 0 0) 27 i 0 (nI i)
def mFareF (n i : Nat) : Nat → mM → mM
  | 0, M => M
  | k + 1, M => let M1 := mFareF n i k M
    if k ≠ i ∧ M1.1 0 i k = 1 then mSend n M1 5 i (nI k) 0 0 0 else M1
def mFare (n : Nat) (M : mM) (i : Nat) (w : Int32) : mM := mFareF n i n (mBecome M i i 3 (M.1 1 i i) w)
theorem CR.noRelay {G : gG} {M : mM} {p i0 : Nat} {kc : Option (Nat × List Int32)} {S : gS} (h : CR G M p i0 kc S) {i : Nat} (hi : i < G.1) : CR G (mRl M i []) p i0 kc (gI S (7, i, 0) 8 0) ∧ gFr S (gI S (7, i, 0) 8 0) := by
  obtain ⟨ρ, a1, a2, a3, a4, a5⟩ := h.2.2.2.1 i hi
  refine h.R (fun k f h11 h7 => ?_) (fun i' k f _ => ?_) (fun i' hne => ?_) (fun k f hne => rfl) ⟨ρ, Nat.zero_le _, ?_, a3, a4, fun k hk => by cases hk⟩
  · rw [gI1, if_neg (fun q => h7 ⟨by rw [q.1], q.2⟩)]
  · rw [gI1, if_neg (fun q => by simp at q)]
  · rw [gI1, if_neg (fun q => hne (by simpa using q.1))]
  · rw [gI1, if_pos ⟨rfl, rfl⟩]; rfl
def mNewsN (M : mM) (i : Nat) : Nat → Int32
  | 0 => 0
  | k + 1 => if M.1 4 i k ≤ 0 then mNewsN M i k else mNewsN M i k + 1
def mTellM (msg : List Int32) (x : Int32) : Int32 := if x < 0 then 0 else msg.getD x.toNatClampNeg 0
def mTellE (M : mM) (i j : Nat) (x : Int32) : Int32 := if x = 0 then M.1 0 i j else if x = 1 then M.1 1 i j else if x = 2 then M.1 2 i j else if x = 3 then bitC (M.1 3 i j) else 0
def mTellN (n : Nat) (M : mM) (i : Nat) (x : Int32) : Int32 :=
  if x = 0 then (if M.1 15 i 0 = 0 then 0 else 1) else if x = 1 then M.1 1 i i else if x = 2 then M.1 17 i 0 else if x = 3 then M.1 21 i 0 else if x = 4 then M.1 23 i 0
  else if x = 5 then (if M.1 24 i 0 = 0 then 0 else 1) else if x = 6 then M.1 20 i 0 else if x = 7 then M.1 19 i 0 else if x = 8 then mNewsN M i n else if x = 9 then nI (M.2.1 i).length else 0
