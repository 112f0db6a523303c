/-! the flight's places -/
theorem CR.F {G : gG} {M : mM} {p i0 p' i0' : Nat} {kc kc' : Option (Nat × List Int32)} {S S' : gS} (h : CR G M p i0 kc S) {fl : List (List Int32)} (h1 : ∀ k f, k ≠ (3, 0, 0) → S'.1 k f = S.1 k f) (h2 : ∀ k f, k ≠ (3, 0, 0) → k.1 ≠ 4 → S'.2 k f = S.2 k f) (h3 : S'.2 (3, 0, 0) 2 = S.2 (3, 0, 0) 2) (hF : CF S' fl p' i0' kc') : CR G (mFl M fl) p' i0' kc' S' ∧ gFr S S' := by
  obtain ⟨hK, hE, hN, hL, hC, hF0⟩ := h
  refine ⟨⟨?_, ?_, ?_, ?_, ⟨?_, ?_⟩, hF⟩, fun k hk => ⟨funext fun f => h1 k f (fun e => by rw [e] at hk; simp at hk), funext fun f => h2 k f (fun e => by rw [e] at hk; simp at hk) (by omega)⟩⟩
  · refine hK.of (fun k f k' q => ?_) (fun i => ⟨h1 _ _ (by simp), h1 _ _ (by simp)⟩) (h1 _ _ (by simp))
    by_cases e : k = (3, 0, 0)
    · subst e
      have : f = 2 := by
        have q' : gStat (3, 0, 0) f = some k' := q
        match f, q' with
        | 0, q => cases q
        | 1, q => cases q
        | 2, _ => rfl
        | f + 3, q => cases q
      subst this
      exact h3
    · exact h2 k f e (fun z => by
        obtain ⟨a, b⟩ := k
        simp only at z
        subst z
        cases q)
  · intro i' j' f' hi' hj' hf'
    rw [h1 _ _ (by simp)]; exact hE i' j' f' hi' hj' hf'
  · intro i' f' hi' h5 h18 h8
    rw [h1 _ _ (by simp)]; exact hN i' f' hi' h5 h18 h8
  · intro i' hi'
    exact (hL i' hi').of (h1 _ _ (by simp)) (fun k => h2 _ _ (by simp) (by simp)) (fun k f => h1 _ _ (by simp))
  · intro i' hi'
    obtain ⟨l, a1, a2⟩ := hC.1 i' hi'
    exact ⟨l, by rw [h1 _ _ (by simp)]; exact a1, a2⟩
  · rw [h1 _ _ (by simp)]; exact hC.2
theorem mFl_id {M : mM} : mFl M M.2.2 = M := rfl
theorem isMsg.same {S S' : gS} {a : Nat} {m : List Int32} (h : isMsg S a m) (h1 : ∀ k f, k ≠ (3, 0, 0) → S'.1 k f = S.1 k f) : isMsg S' a m := h.of (fun f _ => h1 _ _ (by simp)) (fun j => h1 _ _ (by simp))
/-- all land -/
theorem CF.land {S : gS} {fl : List (List Int32)} {i0 : Nat} {b : Nat} (h : CF S fl 0 i0 none) (hb : S.2 (3, 0, 0) 0 = some (4, b, 0)) : b < 2 ∧ S.2 (3, 0, 0) 1 = some (4, 1 - b, 0) ∧ fl.length ≤ 60 ∧ S.1 (3, 0, 0) 3 = nI fl.length ∧
    CF (gI (gX (gX S (3, 0, 0) 1 (some (4, b, 0))) (3, 0, 0) 0 (some (4, 1 - b, 0))) (3, 0, 0) 3 0) fl fl.length 0 none := by
  obtain ⟨b', σ, hb2, a1, a2, a3, a4, a5, a6, a7, a8, a9, a10, a11⟩ := h
  have e : b' = b := by
    have := a1.symm.trans hb
    simpa using this
  subst e
  have hl : fl.length ≤ 60 := by omega
  refine ⟨hb2, a2, hl, a7, 1 - b', σ, by omega, ?_, ?_, fun c k hc hk => ?_, a4, Nat.le_refl _, by omega, ?_, fun k hk => absurd hk (by omega), by omega, fun q hq => ?_, fun a msg q => by cases q⟩
  · rw [gI2, gX2, if_pos ⟨rfl, rfl⟩]
  · rw [gI2, gX2, if_neg (fun q => by simp at q), gX2, if_pos ⟨rfl, rfl⟩]
    have : 1 - (1 - b') = b' := by omega
    rw [this]
  · rw [gI2, gX2, if_neg (fun q => by simp at q), gX2, if_neg (fun q => by simp at q)]
    exact a3 c k hc hk
  · rw [gI1, if_pos ⟨rfl, rfl⟩, Nat.sub_self]; rfl
  · have e1 : 1 - (1 - b') = b' := by omega
    have := a8 q (by omega)
    rw [Nat.zero_add] at this
    rw [e1, Nat.zero_add]
    exact this.same (fun k f hk => by rw [gI1, if_neg (fun q => hk q.1)]; rfl)
/-- the next of those that landed is taken -/
theorem CF.take {S : gS} {fl : List (List Int32)} {p x : Nat} (h : CF S fl (p + 1) x none) : ∃ (b a : Nat) (msg : List Int32) (r : List (List Int32)), b < 2 ∧ S.2 (3, 0, 0) 1 = some (4, b, 0) ∧ x < 60 ∧ S.2 (4, b, 0) x = some (5, a, 0) ∧ a < 121 ∧ fl = msg :: r ∧ CF S r p (x + 1) (some (a, msg)) := by
  obtain ⟨b, σ, hb, a1, a2, a3, a4, a5, a6, a7, a8, a9, a10, a11⟩ := h
  obtain ⟨msg, r, rfl⟩ : ∃ msg r, fl = msg :: r := by
    cases fl with
    | nil => simp at a5
    | cons m r => exact ⟨m, r, rfl⟩
  simp only [List.length_cons] at a5 a6 a7 a8
  have hx := a3 (1 - b) x (by omega) (by omega)
  refine ⟨1 - b, σ (1 - b) x, msg, r, by omega, a2, by omega, hx.1, by omega, rfl, b, σ, hb, a1, a2, a3, a4, by omega, by omega, ?_, fun k hk => ?_, by omega, fun q hq => ?_, fun a m q => ?_⟩
  · rw [a7]; congr 1; omega
  · have := a8 k (by omega)
    have e : p + 1 + k = p + k + 1 := by omega
    rw [e] at this
    exact this
  · have := a10 (q + 1) (by omega)
    have e : x + (q + 1) = x + 1 + q := by omega
    rw [e] at this
    exact this
  · cases q
    exact ⟨by omega, rfl, a10 0 (by omega)⟩
theorem CF.done {S : gS} {fl : List (List Int32)} {p i0 : Nat} {kc : Option (Nat × List Int32)} (h : CF S fl p i0 kc) : CF S fl p i0 none := by
  obtain ⟨b, σ, hb, a1, a2, a3, a4, a5, a6, a7, a8, a9, a10, a11⟩ := h
  exact ⟨b, σ, hb, a1, a2, a3, a4, a5, a6, a7, a8, a9, a10, fun a m q => by cases q⟩
theorem CF.rest {S : gS} {fl : List (List Int32)} {i0 j0 : Nat} (h : CF S fl 0 i0 none) (hj : j0 ≤ 60) : CF S fl 0 j0 none := by
  obtain ⟨b, σ, hb, a1, a2, a3, a4, a5, a6, a7, a8, a9, a10, a11⟩ := h
  exact ⟨b, σ, hb, a1, a2, a3, a4, a5, a6, a7, a8, by omega, fun q hq => absurd hq (by omega), fun a m q => by cases q⟩
/-- one is lost -/
def sLose (S : gS) (b k len : Nat) : gS := gX (gI (sShift S (4, b, 0) k (len - 1)) (3, 0, 0) 3 (nI (len - 1))) (4, b, 0) (len - 1) (S.2 (4, b, 0) k)
theorem rhoE_cs (ρ : Nat → Nat) (k len x : Nat) (hk : k < len) : (x < k ∧ rhoE ρ k len x = ρ x) ∨ (k ≤ x ∧ x < len - 1 ∧ rhoE ρ k len x = ρ (x + 1)) ∨ (x = len - 1 ∧ rhoE ρ k len x = ρ k) ∨ (len ≤ x ∧ rhoE ρ k len x = ρ x) := by
  unfold rhoE
  by_cases e1 : x < k
  · exact Or.inl ⟨e1, by rw [if_pos e1]⟩
  · by_cases e2 : x < len - 1
    · exact Or.inr (Or.inl ⟨by omega, e2, by rw [if_neg e1, if_pos e2]⟩)
    · by_cases e3 : x = len - 1
      · exact Or.inr (Or.inr (Or.inl ⟨e3, by rw [if_neg e1, if_neg e2, if_pos e3]⟩))
      · exact Or.inr (Or.inr (Or.inr ⟨by omega, by rw [if_neg e1, if_neg e2, if_neg e3]⟩))
/-- where place x's message was before -/
theorem rhoE_src (ρ : Nat → Nat) (k len x : Nat) (hk : k < len) : ∃ y, rhoE ρ k len x = ρ y ∧ (x < 60 → len ≤ 60 → y < 60) := by
  rcases rhoE_cs ρ k len x hk with ⟨a, b⟩ | ⟨a, c, b⟩ | ⟨a, b⟩ | ⟨a, b⟩
  · exact ⟨x, b, fun h _ => h⟩
  · exact ⟨x + 1, b, fun _ _ => by omega⟩
  · exact ⟨k, b, fun _ _ => by omega⟩
  · exact ⟨x, b, fun h _ => h⟩
theorem CF.lose {S : gS} {fl : List (List Int32)} {i0 k b : Nat} (h : CF S fl 0 i0 none) (hb : S.2 (3, 0, 0) 0 = some (4, b, 0)) (hk : k < fl.length) : CF (sLose S b k fl.length) (fl.eraseIdx k) 0 i0 none := by
  obtain ⟨b', σ, hb2, a1, a2, a3, a4, a5, a6, a7, a8, a9, a10, a11⟩ := h
  have e : b' = b := by
    have := a1.symm.trans hb
    simpa using this
  subst e
  have hl : fl.length ≤ 60 := by omega
  have hle : (fl.eraseIdx k).length = fl.length - 1 := List.length_eraseIdx_of_lt hk
  refine ⟨b', fun c x => if c = b' then rhoE (σ b') k fl.length x else σ c x, hb2, ?_, ?_, fun c x hc hx => ?_, fun c x c' x' hc hx hc' hx' q => ?_, by omega, by omega, ?_, fun x hx => ?_, by omega, fun q hq => absurd hq (by omega), fun a m q => by cases q⟩
  · show (gX _ _ _ _).2 _ _ = _
    rw [gX2, if_neg (fun q => by simp at q)]
    rw [gI2, sShift_ne (by simp)]; exact a1
  · show (gX _ _ _ _).2 _ _ = _
    rw [gX2, if_neg (fun q => by simp at q)]
    rw [gI2, sShift_ne (by simp)]; exact a2
  · show (gX _ _ _ _).2 _ _ = _ ∧ _
    dsimp only
    by_cases ec : c = b'
    · subst ec
      rw [if_pos rfl, gX2]
      rcases rhoE_cs (σ c) k fl.length x hk with ⟨r1, r2⟩ | ⟨r1, r3, r2⟩ | ⟨r1, r2⟩ | ⟨r1, r2⟩
      · rw [if_neg (by omega), r2]
        show (sShift S (4, c, 0) k (fl.length - 1)).2 (4, c, 0) x = _ ∧ _
        rw [sShift_at, if_neg (by omega)]; exact a3 c x hc hx
      · rw [if_neg (by omega), r2]
        show (sShift S (4, c, 0) k (fl.length - 1)).2 (4, c, 0) x = _ ∧ _
        rw [sShift_at, if_pos ⟨r1, r3⟩]; exact a3 c (x + 1) hc (by omega)
      · rw [if_pos ⟨rfl, r1⟩, r2]; exact a3 c k hc (by omega)
      · rw [if_neg (by omega), r2]
        show (sShift S (4, c, 0) k (fl.length - 1)).2 (4, c, 0) x = _ ∧ _
        rw [sShift_at, if_neg (by omega)]; exact a3 c x hc hx
    · rw [if_neg ec, gX2, if_neg (fun q => ec (by simpa using q.1))]
      show (sShift S (4, b', 0) k (fl.length - 1)).2 (4, c, 0) x = _ ∧ _
      rw [sShift_ne (fun q => ec (by simpa using q))]
      exact a3 c x hc hx
  · dsimp only at q
    by_cases ec : c = b' <;> by_cases ec' : c' = b'
    · subst ec; subst ec'
      rw [if_pos rfl, if_pos rfl] at q
      refine ⟨rfl, ?_⟩
      rcases rhoE_cs (σ c') k fl.length x hk with ⟨r1, r2⟩ | ⟨r1, r3, r2⟩ | ⟨r1, r2⟩ | ⟨r1, r2⟩ <;> rcases rhoE_cs (σ c') k fl.length x' hk with ⟨s1, s2⟩ | ⟨s1, s3, s2⟩ | ⟨s1, s2⟩ | ⟨s1, s2⟩ <;> (rw [r2, s2] at q; have := (a4 _ _ _ _ hc (by omega) hc (by omega) q).2; omega)
    · subst ec
      rw [if_pos rfl, if_neg ec'] at q
      obtain ⟨y, y1, y2⟩ := rhoE_src (σ c) k fl.length x hk
      rw [y1] at q
      exact absurd (a4 _ _ _ _ hc (y2 hx hl) hc' hx' q).1 (fun z => ec' z.symm)
    · subst ec'
      rw [if_neg ec, if_pos rfl] at q
      obtain ⟨y, y1, y2⟩ := rhoE_src (σ c') k fl.length x' hk
      rw [y1] at q
      exact absurd (a4 _ _ _ _ hc hx hc' (y2 hx' hl) q).1 ec
    · rw [if_neg ec, if_neg ec'] at q
      exact a4 _ _ _ _ hc hx hc' hx' q
  · unfold sLose
    rw [gX1, gI1, if_pos ⟨rfl, rfl⟩, hle]
    congr 1
  · rw [hle] at hx
    dsimp only
    rw [if_pos rfl, Nat.zero_add, getD_erase]
    have hs : ∀ y, y < fl.length → isMsg (sLose S b' k fl.length) (σ b' y) (fl.getD y []) := fun y hy => by
      have := a8 y (by omega)
      rw [Nat.zero_add] at this
      exact this.same (fun k2 f hk2 => by unfold sLose; rw [gX1, gI1, if_neg (fun q => hk2 q.1)]; rfl)
    rcases rhoE_cs (σ b') k fl.length x hk with ⟨r1, r2⟩ | ⟨r1, r3, r2⟩ | ⟨r1, r2⟩ | ⟨r1, r2⟩
    · rw [r2, if_pos r1]; exact hs x (by omega)
    · rw [r2, if_neg (by omega)]; exact hs (x + 1) (by omega)
    · omega
    · omega
/-- two change places -/
def sSwap (S : gS) (b k : Nat) : gS := gX (gX S (4, b, 0) k (S.2 (4, b, 0) (k + 1))) (4, b, 0) (k + 1) (S.2 (4, b, 0) k)
def mSw (x k : Nat) : Nat := if x = k then k + 1 else if x = k + 1 then k else x
def mSwap (fl : List (List Int32)) (k : Nat) : List (List Int32) := (fl.set k (fl.getD (k + 1) [])).set (k + 1) (fl.getD k [])
theorem mSwap_at {fl : List (List Int32)} {k x : Nat} (hk : k + 1 < fl.length) : (mSwap fl k).getD x [] = fl.getD (mSw x k) [] := by
  unfold mSwap mSw
  rw [List.getD_eq_getElem?_getD]
  by_cases e2 : x = k + 1
  · subst e2
    rw [List.getElem?_set_self (by rw [List.length_set]; omega), if_neg (by omega), if_pos rfl]; rfl
  · rw [List.getElem?_set_ne (Ne.symm e2)]
    by_cases e1 : x = k
    · subst e1
      rw [List.getElem?_set_self (by omega), if_pos rfl]; rfl
    · rw [List.getElem?_set_ne (Ne.symm e1), if_neg e1, if_neg e2, ← List.getD_eq_getElem?_getD]
theorem CF.swap {S : gS} {fl : List (List Int32)} {i0 k b : Nat} (h : CF S fl 0 i0 none) (hb : S.2 (3, 0, 0) 0 = some (4, b, 0)) (hk : k + 1 < fl.length) : CF (sSwap S b k) (mSwap fl k) 0 i0 none := by
  obtain ⟨b', σ, hb2, a1, a2, a3, a4, a5, a6, a7, a8, a9, a10, a11⟩ := h
  have e : b' = b := by
    have := a1.symm.trans hb
    simpa using this
  subst e
  have hl : fl.length ≤ 60 := by omega
  have hle : (mSwap fl k).length = fl.length := by unfold mSwap; rw [List.length_set, List.length_set]
  have hsw : ∀ x, x < 60 → mSw x k < 60 := fun x hx => by unfold mSw; split <;> (try split) <;> omega
  have hswi : ∀ x y, mSw x k = mSw y k → x = y := fun x y q => by unfold mSw at q; split at q <;> (try split at q) <;> (try split at q) <;> (try split at q) <;> omega
  refine ⟨b', fun c x => if c = b' then σ b' (mSw x k) else σ c x, hb2, ?_, ?_, fun c x hc hx => ?_, fun c x c' x' hc hx hc' hx' q => ?_, by omega, by omega, ?_, fun x hx => ?_, by omega, fun q hq => absurd hq (by omega), fun a m q => by cases q⟩
  · show (gX _ _ _ _).2 _ _ = _
    rw [gX2, if_neg (fun q => by simp at q), gX2, if_neg (fun q => by simp at q)]; exact a1
  · show (gX _ _ _ _).2 _ _ = _
    rw [gX2, if_neg (fun q => by simp at q), gX2, if_neg (fun q => by simp at q)]; exact a2
  · show (gX _ _ _ _).2 _ _ = _ ∧ _
    dsimp only
    by_cases ec : c = b'
    · subst ec
      rw [if_pos rfl, gX2, gX2]
      have := a3 c (mSw x k) hc (hsw x hx)
      unfold mSw at this ⊢
      by_cases e2 : x = k + 1
      · rw [if_pos ⟨rfl, e2⟩]
        rw [if_neg (by omega), if_pos e2] at this ⊢
        exact this
      · rw [if_neg (fun q => e2 q.2)]
        by_cases e1 : x = k
        · rw [if_pos ⟨rfl, e1⟩]
          rw [if_pos e1] at this ⊢
          exact this
        · rw [if_neg (fun q => e1 q.2)]
          rw [if_neg e1, if_neg e2] at this ⊢
          exact this
    · rw [if_neg ec, gX2, if_neg (fun q => ec (by simpa using q.1)), gX2, if_neg (fun q => ec (by simpa using q.1))]
      exact a3 c x hc hx
  · dsimp only at q
    by_cases ec : c = b' <;> by_cases ec' : c' = b'
    · subst ec; subst ec'
      rw [if_pos rfl, if_pos rfl] at q
      exact ⟨rfl, hswi _ _ (a4 _ _ _ _ hc (hsw x hx) hc (hsw x' hx') q).2⟩
    · subst ec
      rw [if_pos rfl, if_neg ec'] at q
      exact absurd (a4 _ _ _ _ hc (hsw x hx) hc' hx' q).1 (fun z => ec' z.symm)
    · subst ec'
      rw [if_neg ec, if_pos rfl] at q
      exact absurd (a4 _ _ _ _ hc hx hc' (hsw x' hx') q).1 ec
    · rw [if_neg ec, if_neg ec'] at q
      exact a4 _ _ _ _ hc hx hc' hx' q
  · rw [hle]; exact a7
  · rw [hle] at hx
    dsimp only
    rw [if_pos rfl, Nat.zero_add, mSwap_at hk]
    have hlt : mSw x k < fl.length := by unfold mSw; split <;> (try split) <;> omega
    have := a8 (mSw x k) (by omega)
    rw [Nat.zero_add] at this
    exact this
