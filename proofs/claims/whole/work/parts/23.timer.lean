/-! the timer's pure picture -/
theorem mSend_1 {n : Nat} {M : mM} {kind : Int32} {i : Nat} {to no o g : Int32} {f i' j : Nat} (h : f ≠ 4) : (mSend n M kind i to no o g).1 f i' j = M.1 f i' j := by
  unfold mSend mPush
  split
  · split <;> rfl
  · split <;> exact if_neg (fun q => h q.1)
theorem mSend_r {n : Nat} {M : mM} {kind : Int32} {i : Nat} {to no o g : Int32} : (mSend n M kind i to no o g).2.1 = M.2.1 := by
  unfold mSend mPush
  split <;> split <;> rfl
def mNextF (n b : Nat) (ok : Nat → Bool) : Nat → Nat → Option Nat
  | 0, _ => none
  | rem + 1, k => if ok ((b + k) % n) then some ((b + k) % n) else mNextF n b ok rem (k + 1)
def mNext (n b : Nat) (ok : Nat → Bool) : Option Nat := mNextF n b ok n 1
def mOkS (M : mM) (i : Nat) (w : Int32) (m : Nat) : Bool := decide (m ≠ i ∧ M.1 0 i m ≠ 0 ∧ M.1 0 i m ≤ w)
theorem mNextF_lt {n b : Nat} {ok : Nat → Bool} (hn : 0 < n) : ∀ {rem k m : Nat}, mNextF n b ok rem k = some m → m < n ∧ ok m = true
  | 0, k, m, h => by cases h
  | rem + 1, k, m, h => by
    rw [mNextF] at h
    by_cases e : ok ((b + k) % n) = true
    · rw [if_pos e] at h
      cases h
      exact ⟨Nat.mod_lt _ hn, e⟩
    · rw [if_neg e] at h
      exact mNextF_lt hn h
def mConf (x : Int32) : Int32 := if bitC x < 3 then bitC x else 3
def mBury1 (M : mM) (i k : Nat) (w : Int32) : mM := if k ≠ i ∧ M.1 0 i k = 2 ∧ 24 - 6 * mConf (M.1 3 i k) ≤ w - M.1 2 i k then mBecome M i k 3 (M.1 1 i k) w else M
def mBury (M : mM) (i : Nat) (w : Int32) : Nat → mM
  | 0 => M
  | k + 1 => mBury1 (mBury M i w k) i k w
def mAged (r : List (List Int32)) (k : Nat) : List (List Int32) := r.set k [(r.getD k []).getD 0 0, (r.getD k []).getD 1 0, (r.getD k []).getD 2 0, (r.getD k []).getD 3 0 + 1]
def mAgeF (n i : Nat) : Nat → Nat → mM → mM
  | 0, _, M => M
  | rem + 1, k, M => if (((M.2.1 i).getD k []).getD 3 0 + 1) < 3 then mAgeF n i rem (k + 1) (mRl M i (mAged (M.2.1 i) k))
    else mAgeF n i rem k (mSend n (mRl (mRl M i (mAged (M.2.1 i) k)) i ((mAged (M.2.1 i) k).eraseIdx k)) 4 i (((M.2.1 i).getD k []).getD 1 0) (((M.2.1 i).getD k []).getD 0 0) (((M.2.1 i).getD k []).getD 1 0) (((M.2.1 i).getD k []).getD 2 0))
def mAge (n : Nat) (M : mM) (i : Nat) : mM := mAgeF n i (M.2.1 i).length 0 M
def mProbe (n : Nat) (M : mM) (i m : Nat) : mM :=
  let M1 := mSet (mSet (mSet (mSet (mSet (mSet (mSet M 21 i 0 (nI m)) 22 i 0 (nI m)) 20 i 0 (M.1 20 i 0 + 1)) 23 i 0 0) 24 i 0 0) 25 i 0 0) 26 i 0 0
  mSend n M1 1 i (nI m) (M.1 20 i 0 + 1) (nI i) (nI m)
def mRest (n : Nat) (M : mM) (i : Nat) : mM :=
  let M1 := mSet M 19 i 0 (M.1 19 i 0 - 1)
  if M.1 19 i 0 - 1 ≤ 0 then
    match mNext n (M.1 22 i 0).toNatClampNeg (mOkS M i 2) with
    | none => mSet M1 19 i 0 3
    | some m => mProbe n M1 i m
  else M1
def mAskF (n i : Nat) : Nat → Nat → mM → mM
  | 0, _, M => M
  | rem + 1, k, M => if 2 ≤ M.1 25 i 0 then M
    else if ((M.1 21 i 0).toNatClampNeg + k) % n ≠ i ∧ M.1 0 i (((M.1 21 i 0).toNatClampNeg + k) % n) = 1 then
      mAskF n i rem (k + 1) (mSet (mSend n M 3 i (nI (((M.1 21 i 0).toNatClampNeg + k) % n)) (M.1 20 i 0) (nI i) (M.1 21 i 0)) 25 i 0 (M.1 25 i 0 + 1))
    else mAskF n i rem (k + 1) M
def mMax0 (x : Int32) : Int32 := if 0 < x then x else 0
def mEnd (M : mM) (i : Nat) (w : Int32) : mM :=
  let M1 := if M.1 24 i 0 = 0 then
      let by_ := if M.1 25 i 0 = 0 then 1 else mMax0 (M.1 25 i 0 - M.1 26 i 0)
      let M0 := mSet M 17 i 0 (mMin4 (M.1 17 i 0 + by_))
      let m := (M.1 21 i 0).toNatClampNeg
      if M.1 0 i m = 1 then mSet (mBecome M0 i m 2 (M.1 1 i m) w) 3 i m (mBit (nI i)) else M0
    else mSet M 17 i 0 (mMax0 (M.1 17 i 0 - 1))
  mSet (mSet (mSet (mSet M1 21 i 0 (-1)) 23 i 0 0) 24 i 0 0) 19 i 0 (1 + M1.1 17 i 0)
def mGo (n : Nat) (M : mM) (i : Nat) (w : Int32) : mM :=
  let M1 := mSet M 23 i 0 (M.1 23 i 0 + 1)
  let M2 := if M.1 23 i 0 + 1 = 3 ∧ M.1 24 i 0 = 0 then mAskF n i (n - 1) 1 M1 else M1
  if M.1 23 i 0 + 1 < 8 then M2 else mEnd M2 i w
def mSync (n : Nat) (M : mM) (i : Nat) : mM :=
  match mNext n (M.1 27 i 0).toNatClampNeg (mOkS M i 1) with
  | none => M
  | some m => mSend n (mSet M 27 i 0 (nI m)) 6 i (nI m) 0 0 0
def mTimer (n : Nat) (M : mM) (i : Nat) (w : Int32) : mM :=
  let M1 := mBury (mAge n M i) i w n
  let M2 := if M1.1 21 i 0 = -1 then mRest n M1 i else mGo n M1 i w
  if w - M2.1 16 i 0 - (w - M2.1 16 i 0) / 20 * 20 = 0 then mSync n M2 i else M2
/-- the node's own numbers are in order -/
def mNi (n : Nat) (M : mM) (i : Nat) : Prop := isN n (M.1 22 i 0) ∧ isN n (M.1 27 i 0) ∧ (M.1 21 i 0 = -1 ∨ isN n (M.1 21 i 0))
theorem mNi.of {n : Nat} {M M' : mM} {i : Nat} (h : mNi n M i) (e1 : M'.1 22 i 0 = M.1 22 i 0) (e2 : M'.1 27 i 0 = M.1 27 i 0) (e3 : M'.1 21 i 0 = M.1 21 i 0) : mNi n M' i := by
  unfold mNi
  rw [e1, e2, e3]; exact h
theorem mBecome_1 {M : mM} {i j f i' j' : Nat} {s inc w : Int32} (h : 5 ≤ f) : (mBecome M i j s inc w).1 f i' j' = M.1 f i' j' := by
  unfold mBecome
  rw [mSet_ne (by omega), mSet_ne (by omega), mSet_ne (by omega), mSet_ne (by omega), mSet_ne (by omega)]
theorem mBury_1 {M : mM} {i f i' j' : Nat} {w : Int32} (h : 5 ≤ f) : ∀ {k : Nat}, (mBury M i w k).1 f i' j' = M.1 f i' j'
  | 0 => rfl
  | k + 1 => by
    show (mBury1 (mBury M i w k) i k w).1 f i' j' = _
    unfold mBury1
    split
    · rw [mBecome_1 h, mBury_1 h]
    · exact mBury_1 h
theorem mAgeF_1 {n i f i' j' : Nat} (h : f ≠ 4) : ∀ {rem k : Nat} {M : mM}, (mAgeF n i rem k M).1 f i' j' = M.1 f i' j'
  | 0, _, _ => rfl
  | rem + 1, k, M => by
    rw [mAgeF]
    split
    · rw [mAgeF_1 h]; rfl
    · rw [mAgeF_1 h, mSend_1 h]; rfl
/-- a relay grows older -/
theorem CR.aged {G : gG} {M : mM} {p i0 : Nat} {kc : Option (Nat × List Int32)} {S : gS} (h : CR G M p i0 kc S) {i k x : Nat} (hi : i < G.1) (hk : k < (M.2.1 i).length) (hx : S.2 (10, i, 0) k = some (11, i, x)) :
    CR G (mRl M i (mAged (M.2.1 i) k)) p i0 kc (gI S (11, i, x) 3 (((M.2.1 i).getD k []).getD 3 0 + 1)) ∧ gFr S (gI S (11, i, x) 3 (((M.2.1 i).getD k []).getD 3 0 + 1)) := by
  obtain ⟨ρ, a1, a2, a3, a4, a5⟩ := h.2.2.2.1 i hi
  have ex : ρ k = x := by
    have := (a3 k (by omega)).1.symm.trans hx
    simpa using this
  refine h.R (fun k' f h11 h7 => ?_) (fun i' k' f hne => ?_) (fun i' hne => ?_) (fun k f hne => rfl) ?_
  · rw [gI1, if_neg (fun q => h11 (by rw [q.1]))]
  · rw [gI1, if_neg (fun q => hne (by simpa using congrArg (fun z : gK => z.2.1) q.1))]
  · rw [gI1, if_neg (fun q => by simp at q)]
  · refine ⟨ρ, by rw [mAged, List.length_set]; exact a1, ?_, a3, a4, fun k' hk' f hf => ?_⟩
    · rw [gI1, if_neg (fun q => by simp at q), mAged, List.length_set]; exact a2
    · rw [mAged, List.length_set] at hk'
      by_cases e : k' = k
      · subst e
        have eg : (mAged (M.2.1 i) k').getD k' [] = [((M.2.1 i).getD k' []).getD 0 0, ((M.2.1 i).getD k' []).getD 1 0, ((M.2.1 i).getD k' []).getD 2 0, ((M.2.1 i).getD k' []).getD 3 0 + 1] := by
          rw [mAged, List.getD_eq_getElem?_getD, List.getElem?_set_self hk']; rfl
        rw [eg, ex, gI1]
        have s0 := a5 k' hk'
        rw [ex] at s0
        match f, hf with
        | 0, _ => rw [if_neg (fun q => by simp at q)]; exact s0 0 (by decide)
        | 1, _ => rw [if_neg (fun q => by simp at q)]; exact s0 1 (by decide)
        | 2, _ => rw [if_neg (fun q => by simp at q)]; exact s0 2 (by decide)
        | 3, _ => rw [if_pos ⟨rfl, rfl⟩]; rfl
        | f + 4, h => exact absurd h (by omega)
      · have eg : (mAged (M.2.1 i) k).getD k' [] = (M.2.1 i).getD k' [] := by
          rw [mAged, List.getD_eq_getElem?_getD, List.getElem?_set_ne (Ne.symm e), ← List.getD_eq_getElem?_getD]
        have hne : ρ k' ≠ x := fun q => e (a4 k' k (by omega) (by omega) (by rw [q, ex]))
        rw [eg, gI1, if_neg (fun q => hne (by simpa using congrArg (fun z : gK => z.2.2) q.1))]
        exact a5 k' hk' f hf
