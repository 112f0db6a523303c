/-! single stores, lifted -/
theorem CF.of {S S' : gS} {fl : List (List Int32)} {p i0 : Nat} {kc : Option (Nat × List Int32)} (h : CF S fl p i0 kc) (h3 : ∀ f, S'.2 (3, 0, 0) f = S.2 (3, 0, 0) f) (h4 : ∀ c k, S'.2 (4, c, 0) k = S.2 (4, c, 0) k) (hz : S'.1 (3, 0, 0) 3 = S.1 (3, 0, 0) 3) (h5 : ∀ a f, S'.1 (5, a, 0) f = S.1 (5, a, 0) f) (h6 : ∀ a j, S'.1 (6, a, 0) j = S.1 (6, a, 0) j) : CF S' fl p i0 kc := by
  obtain ⟨b, σ, hb, a1, a2, a3, a4, a5, a6, a7, a8, a9, a10, a11⟩ := h
  have hm : ∀ a m, isMsg S a m → isMsg S' a m := fun a m q => q.of (fun f _ => h5 a f) (h6 a)
  exact ⟨b, σ, hb, by rw [h3]; exact a1, by rw [h3]; exact a2, fun c k hc hk => by rw [h4]; exact a3 c k hc hk, a4, a5, a6, by rw [hz]; exact a7, fun k hk => hm _ _ (a8 k hk), a9, fun q hq => hm _ _ (a10 q hq), fun a msg q => ⟨(a11 a msg q).1, (a11 a msg q).2.1, hm _ _ (a11 a msg q).2.2⟩⟩
theorem mSet_ne {M : mM} {f i j f' i' j' : Nat} {v : Int32} (h : ¬ (f' = f ∧ i' = i ∧ j' = j)) : (mSet M f i j v).1 f' i' j' = M.1 f' i' j' := if_neg h
theorem mSet_eq {M : mM} {f i j : Nat} {v : Int32} : (mSet M f i j v).1 f i j = v := if_pos ⟨rfl, rfl, rfl⟩
theorem CR.E {G : gG} {M : mM} {p i0 : Nat} {kc : Option (Nat × List Int32)} {S : gS} (h : CR G M p i0 kc S) {i j f : Nat} (hf : f < 5) (v : Int32) : CR G (mSet M f i j v) p i0 kc (gI S (9, i, j) f v) ∧ gFr S (gI S (9, i, j) f v) := by
  obtain ⟨hK, hE, hN, hL, hC, hF⟩ := h
  refine ⟨⟨hK.I (by simp), ?_, ?_, ?_, ⟨?_, ?_⟩, ?_⟩, gFr.I (by simp)⟩
  · intro i' j' f' hi' hj' hf'
    rw [gI1]
    by_cases q : f' = f ∧ i' = i ∧ j' = j
    · obtain ⟨rfl, rfl, rfl⟩ := q
      rw [if_pos ⟨rfl, rfl⟩, mSet_eq]
    · rw [mSet_ne q, if_neg (fun z => q ⟨z.2, by simpa using congrArg (fun k : gK => k.2.1) z.1, by simpa using congrArg (fun k : gK => k.2.2) z.1⟩)]
      exact hE i' j' f' hi' hj' hf'
  · intro i' f' hi' h5 h18 h8
    rw [gI1, if_neg (fun z => by simp at z), hN i' f' hi' h5 h18 h8, mSet_ne (by omega)]
  · intro i' hi'
    exact (hL i' hi').of (by rw [gI1, if_neg (fun z => by simp at z)]) (fun _ => rfl) (fun k f => by rw [gI1, if_neg (fun z => by simp at z)])
  · intro i' hi'
    obtain ⟨l, h1, h2⟩ := hC.1 i' hi'
    exact ⟨l, by rw [gI1, if_neg (fun z => by simp at z)]; exact h1, fun j hj => by rw [h2 j hj, mSet_ne (by omega)]⟩
  · rw [gI1, if_neg (fun z => by simp at z), hC.2, mSet_ne (by omega)]
  · exact hF.of (fun _ => rfl) (fun _ _ => rfl) (by rw [gI1, if_neg (fun z => by simp at z)]) (fun a f => by rw [gI1, if_neg (fun z => by simp at z)]) (fun a j => by rw [gI1, if_neg (fun z => by simp at z)])
theorem CR.N {G : gG} {M : mM} {p i0 : Nat} {kc : Option (Nat × List Int32)} {S : gS} (h : CR G M p i0 kc S) {i f : Nat} (h5 : 5 ≤ f) (h18 : f < 18) (h8 : f ≠ 8) (v : Int32) : CR G (mSet M (10 + f) i 0 v) p i0 kc (gI S (7, i, 0) f v) ∧ gFr S (gI S (7, i, 0) f v) := by
  obtain ⟨hK, hE, hN, hL, hC, hF⟩ := h
  refine ⟨⟨hK.I ⟨by simp, fun _ => by omega⟩, ?_, ?_, ?_, ⟨?_, ?_⟩, ?_⟩, gFr.I (by simp)⟩
  · intro i' j' f' hi' hj' hf'
    rw [gI1, if_neg (fun z => by simp at z), hE i' j' f' hi' hj' hf', mSet_ne (by omega)]
  · intro i' f' hi' h5' h18' h8'
    rw [gI1]
    by_cases q : i' = i ∧ f' = f
    · obtain ⟨rfl, rfl⟩ := q
      rw [if_pos ⟨rfl, rfl⟩, mSet_eq]
    · rw [if_neg (fun z => q ⟨by simpa using congrArg (fun k : gK => k.2.1) z.1, z.2⟩), mSet_ne (by omega)]
      exact hN i' f' hi' h5' h18' h8'
  · intro i' hi'
    exact (hL i' hi').of (by rw [gI1, if_neg (fun z => h8 z.2.symm)]) (fun _ => rfl) (fun k f => by rw [gI1, if_neg (fun z => by simp at z)])
  · intro i' hi'
    obtain ⟨l, h1, h2⟩ := hC.1 i' hi'
    exact ⟨l, by rw [gI1, if_neg (fun z => by simp at z)]; exact h1, fun j hj => by rw [h2 j hj, mSet_ne (by omega)]⟩
  · rw [gI1, if_neg (fun z => by simp at z), hC.2, mSet_ne (by omega)]
  · exact hF.of (fun _ => rfl) (fun _ _ => rfl) (by rw [gI1, if_neg (fun z => by simp at z)]) (fun a f => by rw [gI1, if_neg (fun z => by simp at z)]) (fun a j => by rw [gI1, if_neg (fun z => by simp at z)])
/-! to learn -/
def mBecome (M : mM) (i j : Nat) (s inc now : Int32) : mM := mSet (mSet (mSet (mSet (mSet M 0 i j s) 1 i j inc) 2 i j now) 3 i j 0) 4 i j 4
def mMin4 (x : Int32) : Int32 := if x < 4 then x else 4
def mBit (x : Int32) : Int32 := 1 <<< (x &&& 31)
def mLearn (M : mM) (i m : Nat) (s inc fr w : Int32) : mM :=
  if m = i then
    if s = 1 then M
    else mSet (if M.1 1 i i ≤ inc then mSet (mBecome M i i 1 (inc + 1) w) 17 i 0 (mMin4 (M.1 17 i 0 + 1)) else M) 4 i i 4
  else if M.1 0 i m = 0 ∨ M.1 1 i m < inc ∨ (inc = M.1 1 i m ∧ M.1 0 i m < s) then
    if s = 2 then mSet (mBecome M i m 2 inc w) 3 i m (mBit fr) else mBecome M i m s inc w
  else if M.1 0 i m = 2 ∧ s = 2 ∧ inc = M.1 1 i m then mSet M 3 i m (M.1 3 i m ||| mBit fr)
  else M
theorem CR.become {G : gG} {M : mM} {p i0 : Nat} {kc : Option (Nat × List Int32)} {S : gS} (h : CR G M p i0 kc S) {i j : Nat} (s inc now : Int32) : CR G (mBecome M i j s inc now) p i0 kc (sBecome S i j s inc now) ∧ gFr S (sBecome S i j s inc now) := by
  have h1 := h.E (i := i) (j := j) (f := 0) (by decide) s
  have h2 := h1.1.E (i := i) (j := j) (f := 1) (by decide) inc
  have h3 := h2.1.E (i := i) (j := j) (f := 2) (by decide) now
  have h4 := h3.1.E (i := i) (j := j) (f := 3) (by decide) 0
  have h5 := h4.1.E (i := i) (j := j) (f := 4) (by decide) 4
  exact ⟨h5.1, (((h1.2.tr h2.2).tr h3.2).tr h4.2).tr h5.2⟩
