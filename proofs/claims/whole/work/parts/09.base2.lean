theorem gI1 {S : gS} {k k' : gK} {f f' : Nat} {v : Int32} : (gI S k f v).1 k' f' = if k' = k ∧ f' = f then v else S.1 k' f' := rfl
theorem gI2 {S : gS} {k : gK} {f : Nat} {v : Int32} : (gI S k f v).2 = S.2 := rfl
theorem gX1 {S : gS} {k : gK} {f : Nat} {r : Option gK} : (gX S k f r).1 = S.1 := rfl
theorem gX2 {S : gS} {k k' : gK} {f f' : Nat} {r : Option gK} : (gX S k f r).2 k' f' = if k' = k ∧ f' = f then r else S.2 k' f' := rfl
theorem g_inc (k : Nat) : nI k + Int32.ofInt 1 = nI (k + 1) := by rw [nI_succ]; rfl
theorem g_sub1 (k : Nat) : nI k + 1 - 1 = nI k := by rw [← nI_succ, nI_pred]
theorem g_lit (k : Nat) : (OfNat.ofNat k : Int32) = nI k := rfl
section GZ2
variable {G : gG} {E : gEnv} {cells slots : Nat} {Q : State → Prop} {t pc : Nat} {lv : List (Option gV)} {st : List gV} {S : gS} {cc : ByteArray} {nL : Nat} {own : String} {d : Nat}
/-- a switch over 0 .. hi -/
theorem gz_switch (cx : gC G E cc nL own d) {dflt : Int} {offs : Array Int} {len : Nat} {x : Int32} (hi : Nat) (tg : Nat → Nat) (tgd : Nat) (hd : decode cc pc = .ok (.tableswitch dflt 0 (hi : Int) offs, len)) (hh : hi < 100) (ht : ∀ i, i < hi + 1 → ∃ off : Int, offs[i]? = some off ∧ (pc : Int) + off = (tg i : Int)) (htd : (pc : Int) + dflt = (tgd : Int))
    (kin : ∀ i, i < hi + 1 → x = nI i → gZ G E cells slots Q t (tg i) lv st S) (kout : (∀ i, i < hi + 1 → x ≠ nI i) → gZ G E cells slots Q t tgd lv st S) : gZ G E cells slots Q t pc lv (.inl x :: st) S := by
  by_cases h : vp_in x (hi + 1)
  · obtain ⟨j, hj, rfl⟩ := vp_in_of h (by omega)
    obtain ⟨off, ho, hto⟩ := ht j hj
    have e := nI_toInt (n := j) (by omega)
    refine gz_tableIn cx hd (by rw [e]; omega) (by rw [e]; omega) ?_ hto (kin j hj rfl)
    rw [e]
    simpa using ho
  · have h2 : ¬ (0 ≤ x.toInt ∧ x.toInt < ((hi + 1 : Nat) : Int)) := fun q => h (vp_in_iff.mpr q)
    refine gz_tableOut cx hd (by omega) htd (kout fun i hi2 hx => ?_)
    subst hx
    exact h (vp_in_nI hi2 (by omega))
end GZ2
