/-! relays, and places that move up -/
def sShift (S : gS) (K : gK) (k x : Nat) : gS := (S.1, fun k' j => if k' = K ∧ k ≤ j ∧ j < x then S.2 K (j + 1) else S.2 k' j)
theorem sShift_0 {S : gS} {K : gK} {k : Nat} : sShift S K k k = S := by
  have : (sShift S K k k).2 = S.2 := by
    funext k' j
    show (if k' = K ∧ k ≤ j ∧ j < k then S.2 K (j + 1) else S.2 k' j) = _
    rw [if_neg (by omega)]
  exact Prod.ext rfl this
theorem sShift_at {S : gS} {K : gK} {k x j : Nat} : (sShift S K k x).2 K j = if k ≤ j ∧ j < x then S.2 K (j + 1) else S.2 K j := by
  show (if K = K ∧ k ≤ j ∧ j < x then S.2 K (j + 1) else S.2 K j) = _
  simp only [true_and]
theorem sShift_ne {S : gS} {K k' : gK} {k x j : Nat} (h : k' ≠ K) : (sShift S K k x).2 k' j = S.2 k' j := if_neg (fun q => h q.1)
theorem sShift_s {S : gS} {K : gK} {k x : Nat} (h : k ≤ x) : gX (sShift S K k x) K x (S.2 K (x + 1)) = sShift S K k (x + 1) := by
  have : (gX (sShift S K k x) K x (S.2 K (x + 1))).2 = (sShift S K k (x + 1)).2 := by
    funext k' j
    rw [gX2]
    show _ = if k' = K ∧ k ≤ j ∧ j < x + 1 then S.2 K (j + 1) else S.2 k' j
    by_cases e : k' = K
    · subst e
      by_cases e2 : j = x
      · subst e2
        rw [if_pos ⟨rfl, rfl⟩, if_pos ⟨rfl, h, by omega⟩]
      · rw [if_neg (fun q => e2 q.2), sShift_at]
        by_cases e3 : k ≤ j ∧ j < x
        · rw [if_pos e3, if_pos ⟨rfl, e3.1, by omega⟩]
        · rw [if_neg e3, if_neg (by omega)]
    · rw [if_neg (fun q => e q.1), sShift_ne e, if_neg (fun q => e q.1)]
  exact Prod.ext rfl this
theorem gSt.of {G : gG} {S S' : gS} (h : gSt G S) (h2 : ∀ k f k', gStat k f = some k' → S'.2 k f = S.2 k f) : gSt G S' := fun k f k' q => (h2 k f k' q).trans (h k f k' q)
theorem gSt.shift10 {G : gG} {S : gS} {i k x : Nat} (h : gSt G S) : gSt G (sShift S (10, i, 0) k x) := h.of (fun k' f k2 q => sShift_ne (fun e => by rw [e] at q; cases q))
theorem gSt.shift4 {G : gG} {S : gS} {b k x : Nat} (h : gSt G S) : gSt G (sShift S (4, b, 0) k x) := h.of (fun k' f k2 q => sShift_ne (fun e => by rw [e] at q; cases q))
theorem gSt.X10 {G : gG} {S : gS} {i j : Nat} {r : Option gK} (h : gSt G S) : gSt G (gX S (10, i, 0) j r) := h.of (fun k' f k2 q => by rw [gX2, if_neg (fun e => by rw [e.1] at q; cases q)])
theorem gSt.X4 {G : gG} {S : gS} {i j : Nat} {r : Option gK} (h : gSt G S) : gSt G (gX S (4, i, 0) j r) := h.of (fun k' f k2 q => by rw [gX2, if_neg (fun e => by rw [e.1] at q; cases q)])
/-- the ended relay goes behind the others -/
def sEnd (S : gS) (i k len : Nat) : gS := gX (gI (sShift S (10, i, 0) k (len - 1)) (7, i, 0) 8 (nI (len - 1))) (10, i, 0) (len - 1) (S.2 (10, i, 0) k)
theorem CR.R {G : gG} {M : mM} {p i0 : Nat} {kc : Option (Nat × List Int32)} {S S' : gS} (h : CR G M p i0 kc S) {i : Nat} {r : List (List Int32)} (h1 : ∀ k f, k.1 ≠ 11 → ¬ (k.1 = 7 ∧ f = 8) → S'.1 k f = S.1 k f) (h11 : ∀ i' k f, i' ≠ i → S'.1 (11, i', k) f = S.1 (11, i', k) f) (h7 : ∀ i', i' ≠ i → S'.1 (7, i', 0) 8 = S.1 (7, i', 0) 8) (h2 : ∀ k f, k ≠ (10, i, 0) → S'.2 k f = S.2 k f) (hL' : CL S' i r) : CR G (mRl M i r) p i0 kc S' ∧ gFr S S' := by
  obtain ⟨hK, hE, hN, hL, hC, hF⟩ := h
  refine ⟨⟨?_, ?_, ?_, ?_, ⟨?_, ?_⟩, ?_⟩, fun k hk => ⟨funext fun f => h1 k f (by omega) (by omega), funext fun f => h2 k f (fun e => by rw [e] at hk; simp at hk)⟩⟩
  · exact hK.of (fun k f k' q => h2 k f (fun e => by rw [e] at q; cases q)) (fun i => ⟨h1 _ _ (by simp) (by simp), h1 _ _ (by simp) (by simp)⟩) (h1 _ _ (by simp) (by simp))
  · intro i' j' f' hi' hj' hf'
    rw [h1 _ _ (by simp) (by simp)]; exact hE i' j' f' hi' hj' hf'
  · intro i' f' hi' h5 h18 h8
    rw [h1 _ _ (by simp) (fun q => h8 q.2)]; exact hN i' f' hi' h5 h18 h8
  · intro i' hi'
    by_cases e : i' = i
    · subst e
      show CL S' i' (if i' = i' then r else M.2.1 i')
      rw [if_pos rfl]; exact hL'
    · show CL S' i' (if i' = i then r else M.2.1 i')
      rw [if_neg e]
      exact (hL i' hi').of (h7 i' e) (fun k => h2 _ _ (fun q => e (by simpa using q))) (fun k f => h11 i' k f e)
  · intro i' hi'
    obtain ⟨l, a1, a2⟩ := hC.1 i' hi'
    exact ⟨l, by rw [h1 _ _ (by simp) (by simp)]; exact a1, a2⟩
  · rw [h1 _ _ (by simp) (by simp)]; exact hC.2
  · exact hF.of (fun f => h2 _ _ (by simp)) (fun c k => h2 _ _ (by simp)) (h1 _ _ (by simp) (by simp)) (fun a f => h1 _ _ (by simp) (by simp)) (fun a j => h1 _ _ (by simp) (by simp))
theorem getD_erase {r : List (List Int32)} {k j : Nat} : (r.eraseIdx k).getD j [] = if j < k then r.getD j [] else r.getD (j + 1) [] := by
  rw [List.getD_eq_getElem?_getD, List.getElem?_eraseIdx]
  by_cases h : j < k <;> simp [h, List.getD_eq_getElem?_getD]
def rhoE (ρ : Nat → Nat) (k len j : Nat) : Nat := if j < k then ρ j else if j < len - 1 then ρ (j + 1) else if j = len - 1 then ρ k else ρ j
theorem CR.endRelay {G : gG} {M : mM} {p i0 : Nat} {kc : Option (Nat × List Int32)} {S : gS} (h : CR G M p i0 kc S) {i k : Nat} (hi : i < G.1) (hk : k < (M.2.1 i).length) : CR G (mRl M i ((M.2.1 i).eraseIdx k)) p i0 kc (sEnd S i k (M.2.1 i).length) ∧ gFr S (sEnd S i k (M.2.1 i).length) := by
  obtain ⟨ρ, a1, a2, a3, a4, a5⟩ := h.2.2.2.1 i hi
  refine h.R (fun k' f h11 h7 => ?_) (fun i' k' f _ => rfl) (fun i' hne => ?_) (fun k' f hne => ?_) ?_
  · show (gI _ _ _ _).1 k' f = _
    rw [gI1, if_neg (fun q => h7 ⟨by rw [q.1], q.2⟩)]; rfl
  · show (gI _ _ _ _).1 _ _ = _
    rw [gI1, if_neg (fun q => hne (by simpa using q.1))]; rfl
  · show (gX _ _ _ _).2 k' f = _
    rw [gX2, if_neg (fun q => hne q.1)]
    exact sShift_ne hne
  · refine ⟨rhoE ρ k (M.2.1 i).length, ?_, ?_, fun j hj => ?_, fun j j' hj hj' => ?_, fun j hj f hf => ?_⟩
    · rw [List.length_eraseIdx_of_lt hk]; omega
    · rw [List.length_eraseIdx_of_lt hk]
      show (gI _ _ _ _).1 _ _ = _
      rw [gI1, if_pos ⟨rfl, rfl⟩]
    · show (gX _ _ _ _).2 _ _ = _ ∧ _
      rw [gX2]
      by_cases e1 : j = (M.2.1 i).length - 1
      · have er : rhoE ρ k (M.2.1 i).length j = ρ k := by
          unfold rhoE
          rw [if_neg (by omega), if_neg (by omega), if_pos e1]
        rw [if_pos ⟨rfl, e1⟩, er]
        exact a3 k (by omega)
      · rw [if_neg (fun q => e1 q.2)]
        show (sShift S (10, i, 0) k ((M.2.1 i).length - 1)).2 (10, i, 0) j = _ ∧ _
        rw [sShift_at]
        by_cases e2 : j < k
        · have er : rhoE ρ k (M.2.1 i).length j = ρ j := by unfold rhoE; rw [if_pos e2]
          rw [if_neg (by omega), er]; exact a3 j hj
        · by_cases e3 : j < (M.2.1 i).length - 1
          · have er : rhoE ρ k (M.2.1 i).length j = ρ (j + 1) := by unfold rhoE; rw [if_neg e2, if_pos e3]
            rw [if_pos ⟨by omega, e3⟩, er]; exact a3 (j + 1) (by omega)
          · have er : rhoE ρ k (M.2.1 i).length j = ρ j := by unfold rhoE; rw [if_neg e2, if_neg e3, if_neg e1]
            rw [if_neg (by omega), er]; exact a3 j hj
    · intro q
      have key : ∀ x y, x < 4 → y < 4 → ρ x = ρ y → x = y := fun x y hx hy => a4 x y hx hy
      have cs : ∀ x, x < 4 → (x < k ∧ rhoE ρ k (M.2.1 i).length x = ρ x) ∨ (k ≤ x ∧ x < (M.2.1 i).length - 1 ∧ rhoE ρ k (M.2.1 i).length x = ρ (x + 1)) ∨ (x = (M.2.1 i).length - 1 ∧ rhoE ρ k (M.2.1 i).length x = ρ k) ∨ ((M.2.1 i).length ≤ x ∧ rhoE ρ k (M.2.1 i).length x = ρ x) := by
        intro x hx
        unfold rhoE
        by_cases e1 : x < k
        · exact Or.inl ⟨e1, by rw [if_pos e1]⟩
        · by_cases e2 : x < (M.2.1 i).length - 1
          · exact Or.inr (Or.inl ⟨by omega, e2, by rw [if_neg e1, if_pos e2]⟩)
          · by_cases e3 : x = (M.2.1 i).length - 1
            · exact Or.inr (Or.inr (Or.inl ⟨e3, by rw [if_neg e1, if_neg e2, if_pos e3]⟩))
            · exact Or.inr (Or.inr (Or.inr ⟨by omega, by rw [if_neg e1, if_neg e2, if_neg e3]⟩))
      rcases cs j hj with ⟨x1, x2⟩ | ⟨x1, x3, x2⟩ | ⟨x1, x2⟩ | ⟨x1, x2⟩ <;> rcases cs j' hj' with ⟨y1, y2⟩ | ⟨y1, y3, y2⟩ | ⟨y1, y2⟩ | ⟨y1, y2⟩ <;> (rw [x2, y2] at q; have := key _ _ (by omega) (by omega) q; omega)
    · rw [List.length_eraseIdx_of_lt hk] at hj
      rw [getD_erase]
      show S.1 (11, i, _) f = _
      unfold rhoE
      by_cases e2 : j < k
      · rw [if_pos e2, if_pos e2]; exact a5 j (by omega) f hf
      · rw [if_neg e2, if_neg e2, if_pos hj]; exact a5 (j + 1) (by omega) f hf
theorem CR.cur {G : gG} {M : mM} {p i0 : Nat} {a : Nat} {msg : List Int32} {S : gS} (h : CR G M p i0 (some (a, msg)) S) : a < 121 ∧ isMsg S a msg := by
  obtain ⟨b, σ, hb, a1, a2, a3, a4, a5, a6, a7, a8, a9, a10, a11⟩ := h.2.2.2.2.2
  obtain ⟨q1, q2, q3⟩ := a11 a msg rfl
  have := (a3 (1 - b) (i0 - 1) (by omega) (by omega)).2
  exact ⟨by omega, q3⟩
/-! what comes with a message -/
def mFind (r : List (List Int32)) (no o g : Int32) : Option Nat := r.findIdx? (fun x => decide (x.getD 0 0 = no ∧ x.getD 1 0 = o ∧ x.getD 2 0 = g))
def mOfProbe (M : mM) (i : Nat) (no : Int32) : Prop := M.1 21 i 0 ≠ -1 ∧ no = M.1 20 i 0
def mAck (n : Nat) (M : mM) (i : Nat) (no o g : Int32) : mM :=
  if o = nI i then (if M.1 21 i 0 ≠ -1 ∧ no = M.1 20 i 0 then mSet M 24 i 0 1 else M)
  else match mFind (M.2.1 i) no o g with
    | none => M
    | some k => mSend n (mRl M i ((M.2.1 i).eraseIdx k)) 2 i o no o g
def mAsk (n : Nat) (M : mM) (i : Nat) (no o g : Int32) : mM :=
  if 4 ≤ (M.2.1 i).length then M else mSend n (mRl M i (M.2.1 i ++ [[no, o, g, 0]])) 1 i g no o g
def mLearns (M : mM) (i : Nat) (msg : List Int32) (w : Int32) : Nat → mM
  | 0 => M
  | t + 1 => mLearn (mLearns M i msg w t) i (msg.getD (7 + 3 * t) 0).toNatClampNeg (msg.getD (7 + (3 * t + 1)) 0) (msg.getD (7 + (3 * t + 2)) 0) (msg.getD 1 0) w
def mTake (n : Nat) (M : mM) (i : Nat) (msg : List Int32) : mM :=
  if msg.getD 0 0 = 1 then mSend n M 2 i (msg.getD 1 0) (msg.getD 3 0) (msg.getD 4 0) (msg.getD 5 0)
  else if msg.getD 0 0 = 2 then mAck n M i (msg.getD 3 0) (msg.getD 4 0) (msg.getD 5 0)
  else if msg.getD 0 0 = 3 then mAsk n M i (msg.getD 3 0) (msg.getD 4 0) (msg.getD 5 0)
  else if msg.getD 0 0 = 4 then (if M.1 21 i 0 ≠ -1 ∧ msg.getD 3 0 = M.1 20 i 0 then mSet M 26 i 0 (M.1 26 i 0 + 1) else M)
  else if msg.getD 0 0 = 6 then mSend n M 7 i (msg.getD 1 0) 0 0 0
  else M
def mRecv (n : Nat) (M : mM) (i : Nat) (msg : List Int32) (w : Int32) : mM := mTake n (mLearns M i msg w (msg.getD 6 0).toNatClampNeg) i msg
def isN (n : Nat) (x : Int32) : Prop := ∃ m, m < n ∧ x = nI m
/-- a message is in order -/
def mWf (n : Nat) (msg : List Int32) : Prop := ∃ c, c ≤ 8 ∧ msg.length = 7 + 3 * c ∧ msg.getD 6 0 = nI c ∧ isN n (msg.getD 1 0) ∧ isN n (msg.getD 2 0) ∧ isN n (msg.getD 4 0) ∧ isN n (msg.getD 5 0) ∧ ∀ t, t < c → isN n (msg.getD (7 + 3 * t) 0)
section GZ3
variable {G : gG} {E : gEnv} {cells slots : Nat} {Q : State → Prop} {t pc : Nat} {lv : List (Option gV)} {st : List gV} {S : gS} {cc : ByteArray} {nL : Nat} {own : String} {d : Nat}
theorem gz_getV (cx : gC G E cc nL own d) {k : gK} {index ci f : Nat} {v : Int32} (hlk : gLk own index ci f) (hd : decode cc pc = .ok (.getfield index, 3)) (hk : k ∈ gKs G t) (hs : gSh G.1 k = .inl ci) (hr : gRf ci f = false) (hv : S.1 k f = v)
    (kk : gZ G E cells slots Q t (pc + 3) lv (.inl v :: st) S) : gZ G E cells slots Q t pc lv (.inr (some k) :: st) S := by
  subst hv
  exact gz_getI cx hlk hd hk hs hr kk
/-- a switch over 1 .. hi -/
theorem gz_switch1 (cx : gC G E cc nL own d) {dflt : Int} {offs : Array Int} {len : Nat} {x : Int32} (hi : Nat) (tg : Nat → Nat) (tgd : Nat) (hd : decode cc pc = .ok (.tableswitch dflt 1 (hi : Int) offs, len)) (hh : hi < 100) (ht : ∀ i, i < hi → ∃ off : Int, offs[i]? = some off ∧ (pc : Int) + off = (tg i : Int)) (htd : (pc : Int) + dflt = (tgd : Int))
    (kin : ∀ i, i < hi → x = nI (i + 1) → gZ G E cells slots Q t (tg i) lv st S) (kout : (∀ i, i < hi → x ≠ nI (i + 1)) → gZ G E cells slots Q t tgd lv st S) : gZ G E cells slots Q t pc lv (.inl x :: st) S := by
  by_cases h : vp_in x (hi + 1) ∧ x ≠ 0
  · obtain ⟨j, hj, rfl⟩ := vp_in_of h.1 (by omega)
    have hj0 : j ≠ 0 := fun q => h.2 (by rw [q]; rfl)
    obtain ⟨off, ho, hto⟩ := ht (j - 1) (by omega)
    have e := nI_toInt (n := j) (by omega)
    have ej : j - 1 + 1 = j := by omega
    refine gz_tableIn cx hd (by rw [e]; omega) (by rw [e]; omega) ?_ hto (kin (j - 1) (by omega) (by rw [ej]))
    rw [e]
    have : ((j : Int) - 1).toNat = j - 1 := by omega
    rw [this]
    exact ho
  · have h2 : ¬ (1 ≤ x.toInt ∧ x.toInt < ((hi + 1 : Nat) : Int)) := fun q => h ⟨vp_in_iff.mpr ⟨by omega, q.2⟩, fun z => by rw [z] at q; exact absurd q.1 (by decide)⟩
    refine gz_tableOut cx hd (by omega) htd (kout fun i hi2 hx => ?_)
    subst hx
    rw [nI_toInt (by omega)] at h2
    omega
end GZ3
/-- one more relay -/
theorem CR.addRelay {G : gG} {M : mM} {p i0 : Nat} {kc : Option (Nat × List Int32)} {S : gS} (h : CR G M p i0 kc S) {i : Nat} (hi : i < G.1) {x : Nat} {no o g : Int32} (hl : (M.2.1 i).length < 4) (hx : S.2 (10, i, 0) (M.2.1 i).length = some (11, i, x)) :
    CR G (mRl M i (M.2.1 i ++ [[no, o, g, 0]])) p i0 kc (gI (gI (gI (gI (gI S (7, i, 0) 8 (nI ((M.2.1 i).length + 1))) (11, i, x) 0 no) (11, i, x) 1 o) (11, i, x) 2 g) (11, i, x) 3 0) ∧ gFr S (gI (gI (gI (gI (gI S (7, i, 0) 8 (nI ((M.2.1 i).length + 1))) (11, i, x) 0 no) (11, i, x) 1 o) (11, i, x) 2 g) (11, i, x) 3 0) := by
  obtain ⟨ρ, a1, a2, a3, a4, a5⟩ := h.2.2.2.1 i hi
  have ex : ρ (M.2.1 i).length = x := by
    have := (a3 _ hl).1.symm.trans hx
    simpa using this
  refine h.R (fun k f h11 h7 => ?_) (fun i' k f hne => ?_) (fun i' hne => ?_) (fun k f hne => rfl) ?_
  · have q : ∀ y, ¬ (k = (11, i, x) ∧ f = y) := fun y q => h11 (by rw [q.1])
    rw [gI1, if_neg (q _), gI1, if_neg (q _), gI1, if_neg (q _), gI1, if_neg (q _), gI1, if_neg (fun q => h7 ⟨by rw [q.1], q.2⟩)]
  · have q : ∀ y, ¬ (((11, i', k) : gK) = (11, i, x) ∧ f = y) := fun y q => hne (by simpa using congrArg (fun z : gK => z.2.1) q.1)
    rw [gI1, if_neg (q _), gI1, if_neg (q _), gI1, if_neg (q _), gI1, if_neg (q _), gI1, if_neg (fun q => by simp at q)]
  · rw [gI1, if_neg (fun q => by simp at q), gI1, if_neg (fun q => by simp at q), gI1, if_neg (fun q => by simp at q), gI1, if_neg (fun q => by simp at q), gI1, if_neg (fun q => hne (by simpa using q.1))]
  · refine ⟨ρ, by rw [List.length_append]; simp only [List.length_cons, List.length_nil]; omega, ?_, a3, a4, fun k hk f hf => ?_⟩
    · rw [gI1, if_neg (fun q => by simp at q), gI1, if_neg (fun q => by simp at q), gI1, if_neg (fun q => by simp at q), gI1, if_neg (fun q => by simp at q), gI1, if_pos ⟨rfl, rfl⟩, List.length_append]
      rfl
    · rw [List.length_append] at hk
      simp only [List.length_cons, List.length_nil] at hk
      by_cases e : k = (M.2.1 i).length
      · subst e
        have eg : (M.2.1 i ++ [[no, o, g, 0]]).getD (M.2.1 i).length [] = [no, o, g, 0] := by
          rw [List.getD_eq_getElem?_getD, List.getElem?_append_right (Nat.le_refl _)]; simp
        rw [ex, eg]
        match f, hf with
        | 0, _ => simp [gI1]
        | 1, _ => simp [gI1]
        | 2, _ => simp [gI1]
        | 3, _ => simp [gI1]
        | f + 4, h => exact absurd h (by omega)
      · have eg : (M.2.1 i ++ [[no, o, g, 0]]).getD k [] = (M.2.1 i).getD k [] := by
          rw [List.getD_eq_getElem?_getD, List.getElem?_append_left (by omega), ← List.getD_eq_getElem?_getD]
        have hne : ρ k ≠ x := fun q => e (a4 k _ (by omega) hl (by rw [q, ex]))
        have q : ∀ y, ¬ (((11, i, ρ k) : gK) = (11, i, x) ∧ f = y) := fun y q => hne (by simpa using congrArg (fun z : gK => z.2.2) q.1)
        rw [gI1, if_neg (q _), gI1, if_neg (q _), gI1, if_neg (q _), gI1, if_neg (q _), gI1, if_neg (fun q => by simp at q), eg]
        exact a5 k (by omega) f hf
