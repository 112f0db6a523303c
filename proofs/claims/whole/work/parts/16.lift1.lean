/-! send, lifted -/
theorem sHdr_o {S : gS} {a : Nat} {kind s r no o g : Int32} {k : gK} {f : Nat} (h : k ≠ (5, a, 0)) : (sHdr S a kind s r no o g).1 k f = S.1 k f := by
  have h1 : ∀ x, ¬ (k = (5, a, 0) ∧ f = x) := fun x q => h q.1
  unfold sHdr
  rw [gI1, if_neg (h1 _), gI1, if_neg (h1 _), gI1, if_neg (h1 _), gI1, if_neg (h1 _), gI1, if_neg (h1 _), gI1, if_neg (h1 _), gI1, if_neg (h1 _)]
theorem sHdr_f {S : gS} {a : Nat} {kind s r no o g : Int32} : ∀ f, f < 6 → (sHdr S a kind s r no o g).1 (5, a, 0) f = [kind, s, r, no, o, g].getD f 0 := by
  intro f hf
  match f, hf with
  | 0, _ => simp [sHdr, gI1]
  | 1, _ => simp [sHdr, gI1]
  | 2, _ => simp [sHdr, gI1]
  | 3, _ => simp [sHdr, gI1]
  | 4, _ => simp [sHdr, gI1]
  | 5, _ => simp [sHdr, gI1]
  | f + 6, h => exact absurd h (by omega)
/-- the cells of a state that has loaded a message at a, off that message -/
def offMsg (S S' : gS) (a : Nat) : Prop := S'.2 = S.2 ∧ (∀ k f, k.1 ≠ 6 → k ≠ (5, a, 0) → k.1 ≠ 9 → k ≠ (3, 0, 0) → S'.1 k f = S.1 k f) ∧ ∀ a' j, a' ≠ a → S'.1 (6, a', 0) j = S.1 (6, a', 0) j
theorem CF.push {S S' : gS} {fl : List (List Int32)} {p i0 : Nat} {kc : Option (Nat × List Int32)} {m : List Int32} (h : CF S fl p i0 kc) (hl : fl.length - p < 60) {a : Nat} (ha : ∀ b σ, b < 2 → S.2 (3, 0, 0) 0 = some (4, b, 0) → S.2 (4, b, 0) (fl.length - p) = some (5, σ, 0) → σ = a) (ho : offMsg S S' a) (hz : S'.1 (3, 0, 0) 3 = nI (fl.length - p + 1)) (hm : isMsg S' a m) : CF S' (fl ++ [m]) p i0 kc := by
  obtain ⟨b, σ, hb, h1, h2, h3, h4, h5, h6, h7, h8, h9, h10, h11⟩ := h
  have ea : σ b (fl.length - p) = a := ha b _ hb h1 (h3 b _ hb hl).1
  obtain ⟨o2, o1, o6⟩ := ho
  have hother : ∀ c k, c < 2 → k < 60 → ¬ (c = b ∧ k = fl.length - p) → ∀ m', isMsg S (σ c k) m' → isMsg S' (σ c k) m' := by
    intro c k hc hk hne m' hm'
    have hd : σ c k ≠ a := fun q => hne (h4 c k b _ hc hk hb hl (by rw [ea]; exact q))
    exact hm'.of (fun f _ => o1 _ f (by simp) (fun q => hd (by simpa using q)) (by simp) (by simp)) (fun j => o6 _ j hd)
  have elen : (fl ++ [m]).length - p = fl.length - p + 1 := by rw [List.length_append]; simp only [List.length_cons, List.length_nil]; omega
  refine ⟨b, σ, hb, by rw [o2]; exact h1, by rw [o2]; exact h2, fun c k hc hk => by rw [o2]; exact h3 c k hc hk, h4, by rw [List.length_append]; omega, by omega, by rw [elen]; exact hz, fun k hk => ?_, h9, fun q hq => ?_, fun a' msg q => ?_⟩
  · rw [elen] at hk
    by_cases e : k = fl.length - p
    · subst e
      rw [ea]
      have e2 : p + (fl.length - p) = fl.length := by omega
      rw [e2, List.getD_eq_getElem?_getD, List.getElem?_append_right (Nat.le_refl _)]
      simpa using hm
    · have e3 : (fl ++ [m]).getD (p + k) [] = fl.getD (p + k) [] := by
        rw [List.getD_eq_getElem?_getD, List.getD_eq_getElem?_getD, List.getElem?_append_left (by omega)]
      rw [e3]
      exact hother b k hb (by omega) (fun q => e q.2) _ (h8 k (by omega))
  · have e3 : (fl ++ [m]).getD q [] = fl.getD q [] := by
      rw [List.getD_eq_getElem?_getD, List.getD_eq_getElem?_getD, List.getElem?_append_left (by omega)]
    rw [e3]
    refine hother (1 - b) (i0 + q) (by omega) (by omega) (fun z => by omega) _ (h10 q hq)
  · obtain ⟨q1, q2, q3⟩ := h11 a' msg q
    refine ⟨q1, q2, ?_⟩
    rw [← q2] at q3 ⊢
    exact hother (1 - b) (i0 - 1) (by omega) (by omega) (fun z => by omega) _ q3
theorem CF.keep {S S' : gS} {fl : List (List Int32)} {p i0 : Nat} {kc : Option (Nat × List Int32)} (h : CF S fl p i0 kc) (ho : offMsg S S' 120) (hz : S'.1 (3, 0, 0) 3 = S.1 (3, 0, 0) 3) : CF S' fl p i0 kc := by
  obtain ⟨b, σ, hb, h1, h2, h3, h4, h5, h6, h7, h8, h9, h10, h11⟩ := h
  obtain ⟨o2, o1, o6⟩ := ho
  have hother : ∀ c k, c < 2 → k < 60 → ∀ m', isMsg S (σ c k) m' → isMsg S' (σ c k) m' := by
    intro c k hc hk m' hm'
    have hd : σ c k ≠ 120 := fun q => by have := (h3 c k hc hk).2; omega
    exact hm'.of (fun f _ => o1 _ f (by simp) (fun q => hd (by simpa using q)) (by simp) (by simp)) (fun j => o6 _ j hd)
  exact ⟨b, σ, hb, by rw [o2]; exact h1, by rw [o2]; exact h2, fun c k hc hk => by rw [o2]; exact h3 c k hc hk, h4, h5, h6, by rw [hz]; exact h7, fun k hk => hother b k hb (by omega) _ (h8 k hk), h9, fun q hq => hother (1 - b) (i0 + q) (by omega) (by omega) _ (h10 q hq), fun a' msg q => by
    obtain ⟨q1, q2, q3⟩ := h11 a' msg q
    refine ⟨q1, q2, ?_⟩
    rw [← q2] at q3 ⊢
    exact hother (1 - b) (i0 - 1) (by omega) (by omega) _ q3⟩
theorem CL.of {S S' : gS} {i : Nat} {r : List (List Int32)} (h : CL S i r) (h7 : S'.1 (7, i, 0) 8 = S.1 (7, i, 0) 8) (h2 : ∀ k, S'.2 (10, i, 0) k = S.2 (10, i, 0) k) (h11 : ∀ k f, S'.1 (11, i, k) f = S.1 (11, i, k) f) : CL S' i r := by
  obtain ⟨ρ, a1, a2, a3, a4, a5⟩ := h
  exact ⟨ρ, a1, by rw [h7]; exact a2, fun k hk => by rw [h2]; exact a3 k hk, a4, fun k hk f hf => by rw [h11]; exact a5 k hk f hf⟩
theorem mMsg_0 {kind i to no o g : Int32} {c : Nat} {news : List Int32} : ∀ f, f < 6 → (mMsg kind i to no o g c news).getD f 0 = [kind, i, to, no, o, g].getD f 0 := by
  intro f hf
  match f, hf with
  | 0, _ => rfl
  | 1, _ => rfl
  | 2, _ => rfl
  | 3, _ => rfl
  | 4, _ => rfl
  | 5, _ => rfl
  | f + 6, h => exact absurd h (by omega)
theorem isMsg_new {S : gS} {M : mM} {a i : Nat} {l : List Nat} {kind to no o g : Int32} (h8 : l.length ≤ 8) (hf : ∀ f, f < 6 → S.1 (5, a, 0) f = [kind, nI i, to, no, o, g].getD f 0) (hc : S.1 (5, a, 0) 6 = nI l.length) (hn : ∀ t, t < l.length → S.1 (6, a, 0) (3 * t) = nI (l.getD t 0) ∧ S.1 (6, a, 0) (3 * t + 1) = M.1 0 i (l.getD t 0) ∧ S.1 (6, a, 0) (3 * t + 2) = M.1 1 i (l.getD t 0)) : isMsg S a (mMsg kind (nI i) to no o g l.length (mNews M i l)) := by
  refine ⟨l.length, h8, ?_, rfl, fun f hf7 => ?_, fun j hj => ?_⟩
  · show ([_, _, _, _, _, _, _] ++ mNews M i l).length = _
    rw [List.length_append, mNews_len]; rfl
  · by_cases e : f = 6
    · subst e; exact hc
    · rw [hf f (by omega), mMsg_0 f (by omega)]
  · have e : (mMsg kind (nI i) to no o g l.length (mNews M i l)).getD (7 + j) 0 = (mNews M i l).getD j 0 := by
      rw [Nat.add_comm]; rfl
    rw [e]
    have ht : j / 3 < l.length := by omega
    obtain ⟨n1, n2, n3⟩ := mNews_at (M := M) (i := i) ht
    obtain ⟨s1, s2, s3⟩ := hn _ ht
    have : j = 3 * (j / 3) ∨ j = 3 * (j / 3) + 1 ∨ j = 3 * (j / 3) + 2 := by omega
    rcases this with q | q | q
    · rw [q, s1, n1]
    · rw [q, s2, n2]
    · rw [q, s3, n3]
/-- what a state is behind a send: M's numbers but for the sendings in l, the message at a -/
theorem CR.sent {G : gG} {M : mM} {p i0 : Nat} {kc : Option (Nat × List Int32)} {S S' : gS} {i a : Nat} {l : List Nat} {msg : List Int32} (h : CR G M p i0 kc S) (ho : offMsg S S' a) (hfr : ∀ k : gK, 20 ≤ k.1 → S'.1 k = S.1 k) (hi : i < G.1)
    (h9 : ∀ i' j f, i' < G.1 → j < G.1 → f < 5 → S'.1 (9, i', j) f = (mSpend M i l).1 f i' j) (hF : CF S' (if M.2.2.length = 60 then M.2.2 else M.2.2 ++ [msg]) p i0 kc) : CR G (mPush (mSpend M i l) msg) p i0 kc S' ∧ gFr S S' := by
  obtain ⟨hK, hE, hN, hL, hC, hF0⟩ := h
  obtain ⟨o2, o1, o6⟩ := ho
  have hm1 : ∀ f i j, f ≠ 4 → (mPush (mSpend M i l) msg).1 f i j = M.1 f i j := by
    intro f i j hf
    unfold mPush
    split <;> exact if_neg (fun q => hf q.1)
  have e1 : (mPush (mSpend M i l) msg).1 = (mSpend M i l).1 := by unfold mPush; split <;> rfl
  have e2 : (mPush (mSpend M i l) msg).2.1 = M.2.1 := by unfold mPush; split <;> rfl
  have e3 : (mPush (mSpend M i l) msg).2.2 = if M.2.2.length = 60 then M.2.2 else M.2.2 ++ [msg] := by
    unfold mPush
    by_cases q : M.2.2.length = 60
    · rw [if_pos q, if_pos (show (mSpend M i l).2.2.length = 60 from q)]; rfl
    · rw [if_neg q, if_neg (show ¬ (mSpend M i l).2.2.length = 60 from q)]; rfl
  have hm : ∀ f i' j, f ≠ 4 → (mPush (mSpend M i l) msg).1 f i' j = M.1 f i' j := by
    intro f i' j hf
    rw [e1]
    exact if_neg (fun q => hf q.1)
  refine ⟨⟨?_, ?_, ?_, ?_, ?_, ?_⟩, fun k hk => ⟨hfr k hk, by rw [o2]⟩⟩
  · exact hK.of (fun _ _ _ _ => by rw [o2]) (fun i => ⟨o1 _ _ (by simp) (by simp) (by simp) (by simp), o1 _ _ (by simp) (by simp) (by simp) (by simp)⟩) (o1 _ _ (by simp) (by simp) (by simp) (by simp))
  · intro i' j f hi' hj hf
    rw [h9 i' j f hi' hj hf, e1]
  · intro i' f hi' h5 h18 hf
    rw [o1 _ _ (by simp) (by simp) (by simp) (by simp), hN i' f hi' h5 h18 hf, hm _ _ _ (by omega)]
  · intro i' hi'
    rw [e2]
    exact (hL i' hi').of (o1 _ _ (by simp) (by simp) (by simp) (by simp)) (fun k => by rw [o2]) (fun k f => o1 _ _ (by simp) (by simp) (by simp) (by simp))
  · refine ⟨fun i' hi' => ?_, ?_⟩
    · obtain ⟨l', h1, h2⟩ := hC.1 i' hi'
      exact ⟨l', by rw [o1 _ _ (by simp) (by simp) (by simp) (by simp)]; exact h1, fun j hj => by rw [h2 j hj, hm _ _ _ (by omega)]⟩
    · rw [o1 _ _ (by simp) (by simp) (by simp) (by simp), hC.2, hm _ _ _ (by omega)]
  · rw [e3]; exact hF
