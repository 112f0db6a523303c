/-! the timer keeps it -/
theorem mRl_rl {M : mM} {i : Nat} {a b : List (List Int32)} : mRl (mRl M i a) i b = mRl M i b := by
  refine Prod.ext rfl (Prod.ext (funext fun i' => ?_) rfl)
  by_cases e : i' = i
  · simp [mRl, e]
  · simp [mRl, e]
theorem mRl_id {M : mM} {i : Nat} {a : List (List Int32)} (h : M.2.1 i = a) : mRl M i a = M := by
  refine Prod.ext rfl (Prod.ext (funext fun i' => ?_) rfl)
  by_cases e : i' = i
  · simp [mRl, e, h]
  · simp [mRl, e]
theorem mRl_at {M : mM} {i : Nat} {a : List (List Int32)} : (mRl M i a).2.1 i = a := if_pos rfl
theorem mPush_rl {M : mM} {i : Nat} {a : List (List Int32)} {m : List Int32} : mPush (mRl M i a) m = mRl (mPush M m) i a := by
  unfold mPush
  by_cases e : M.2.2.length = 60
  · rw [if_pos e]; exact if_pos e
  · rw [if_neg e]; exact if_neg e
theorem mSend_rl {n : Nat} {M : mM} {i : Nat} {a : List (List Int32)} {kind to no o g : Int32} {i' : Nat} : mSend n (mRl M i a) kind i' to no o g = mRl (mSend n M kind i' to no o g) i a := by
  unfold mSend
  by_cases e : kind = 6 ∨ kind = 7
  · rw [if_pos e, if_pos e, ← mPush_rl]; rfl
  · rw [if_neg e, if_neg e, ← mPush_rl]; rfl
def mInc (x : List Int32) : List Int32 := [x.getD 0 0, x.getD 1 0, x.getD 2 0, x.getD 3 0 + 1]
def mPop (n i : Nat) : Nat → mM → mM
  | 0, M => M
  | f + 1, M => match M.2.1 i with
    | [] => M
    | x :: r => if 3 ≤ x.getD 3 0 then mPop n i f (mSend n (mRl M i r) 4 i (x.getD 1 0) (x.getD 0 0) (x.getD 1 0) (x.getD 2 0)) else M
theorem mPop_s {n i f : Nat} {M : mM} {x : List Int32} {r : List (List Int32)} (h : M.2.1 i = x :: r) : mPop n i (f + 1) M = if 3 ≤ x.getD 3 0 then mPop n i f (mSend n (mRl M i r) 4 i (x.getD 1 0) (x.getD 0 0) (x.getD 1 0) (x.getD 2 0)) else M := by
  rw [mPop, h]
theorem mPop_n {n i : Nat} {M : mM} (h : M.2.1 i = []) : ∀ f, mPop n i f M = M
  | 0 => rfl
  | f + 1 => by rw [mPop, h]
theorem mAgeF_keep {n i : Nat} : ∀ (b a : List (List Int32)) (M : mM), M.2.1 i = a ++ b → (∀ x ∈ b, x.getD 3 0 + 1 < 3) → mAgeF n i b.length a.length M = mRl M i (a ++ b.map mInc)
  | [], a, M, h, _ => by
    rw [List.map_nil, mRl_id h]; rfl
  | x :: b, a, M, h, hx => by
    have e1 : (M.2.1 i).getD a.length [] = x := by rw [h]; simp
    have e2 : mAged (M.2.1 i) a.length = a ++ (mInc x :: b) := by
      unfold mAged
      rw [e1, h]
      simp [mInc]
    show mAgeF n i (b.length + 1) a.length M = _
    rw [mAgeF, e1, if_pos (hx x List.mem_cons_self), e2]
    have t := mAgeF_keep (n := n) (i := i) b (a ++ [mInc x]) (mRl M i (a ++ (mInc x :: b))) (by rw [mRl_at]; simp) (fun y hy => hx y (List.mem_cons_of_mem _ hy))
    rw [show a.length + 1 = (a ++ [mInc x]).length by simp, t, mRl_rl]
    simp
theorem mAge_aux {n i : Nat} : ∀ (r : List (List Int32)) (M : mM), M.2.1 i = r → (∀ x ∈ r, isB (x.getD 3 0) 2) → r.Pairwise (fun a b => b.getD 3 0 ≤ a.getD 3 0) → mAgeF n i r.length 0 M = mPop n i r.length (mRl M i (r.map mInc))
  | [], M, h, _, _ => (mRl_id h).symm
  | x :: r, M, h, hb, hp => by
    have hp2 := List.pairwise_cons.mp hp
    have e1 : (M.2.1 i).getD 0 [] = x := by rw [h]; rfl
    have e3 : (mInc x).getD 3 0 = x.getD 3 0 + 1 := rfl
    show mAgeF n i (r.length + 1) 0 M = mPop n i (r.length + 1) (mRl M i (mInc x :: r.map mInc))
    rw [mPop_s (mRl_at)]
    by_cases q : x.getD 3 0 + 1 < 3
    · rw [e3, if_neg (Int32.not_le.mpr q)]
      have t := mAgeF_keep (n := n) (i := i) (x :: r) [] M h (fun y hy => by
        rcases List.mem_cons.mp hy with z | z
        · rw [z]; exact q
        · have z2 := hp2.1 y z
          obtain ⟨v, hv, ev⟩ := hb x List.mem_cons_self
          obtain ⟨u, hu, eu⟩ := hb y (List.mem_cons_of_mem _ z)
          rw [ev] at q z2
          rw [eu] at z2 ⊢
          rw [nI_leI (by omega) (by omega)] at z2
          rw [nI_1] at q ⊢
          have q2 := (nI_ltI (by omega) (by decide)).mp (show nI (v + 1) < nI 3 from q)
          exact nI_lt (b := 3) (by omega) (by decide))
      exact t
    · rw [e3, if_pos (Int32.not_lt.mp q), mAgeF, e1, if_neg q]
      have e2 : (mAged (M.2.1 i) 0).eraseIdx 0 = r := by
        unfold mAged; rw [h]; rfl
      rw [e2, mRl_rl, mRl_rl]
      have t := mAge_aux (n := n) (i := i) r (mSend n (mRl M i r) 4 i (x.getD 1 0) (x.getD 0 0) (x.getD 1 0) (x.getD 2 0)) (by rw [mSend_r, mRl_at]) (fun y hy => hb y (List.mem_cons_of_mem _ hy)) hp2.2
      rw [t, ← mSend_rl, mRl_rl]
      rfl
theorem mAge_pop {n i : Nat} {M : mM} (h : mVr n (M.2.1 i)) : mAge n M i = mPop n i (M.2.1 i).length (mRl M i ((M.2.1 i).map mInc)) := mAge_aux _ M rfl (fun x hx => (h.2.1 x hx).2.2) h.2.2
def mVr3 (n : Nat) (r : List (List Int32)) : Prop := r.length ≤ 4 ∧ (∀ x ∈ r, isN n (x.getD 1 0) ∧ isN n (x.getD 2 0) ∧ isB (x.getD 3 0) 3) ∧ r.Pairwise (fun a b => b.getD 3 0 ≤ a.getD 3 0)
theorem mVr.inc {n : Nat} {r : List (List Int32)} (h : mVr n r) : mVr3 n (r.map mInc) := by
  refine ⟨by rw [List.length_map]; exact h.1, fun x hx => ?_, ?_⟩
  · obtain ⟨y, hy, rfl⟩ := List.mem_map.mp hx
    obtain ⟨a, b, v, hv, ev⟩ := h.2.1 y hy
    refine ⟨a, b, v + 1, by omega, ?_⟩
    show y.getD 3 0 + 1 = _
    rw [ev, nI_1]
  · refine (List.pairwise_map).mpr (h.2.2.imp_of_mem (fun {a b} ha hb hab => ?_))
    obtain ⟨_, _, v, hv, ev⟩ := h.2.1 a ha
    obtain ⟨_, _, u, hu, eu⟩ := h.2.1 b hb
    show b.getD 3 0 + 1 ≤ a.getD 3 0 + 1
    rw [ev, eu] at hab ⊢
    rw [nI_leI (by omega) (by omega)] at hab
    rw [nI_1, nI_1]
    exact nI_le (by omega) (by omega)
theorem mVr3.tail {n : Nat} {x : List Int32} {r : List (List Int32)} (h : mVr3 n (x :: r)) : mVr3 n r := ⟨by have := h.1; simp only [List.length_cons] at this; omega, fun y hy => h.2.1 y (List.mem_cons_of_mem _ hy), (List.pairwise_cons.mp h.2.2).2⟩
theorem mVr3.low {n : Nat} {x : List Int32} {r : List (List Int32)} (h : mVr3 n (x :: r)) (hx : ¬ 3 ≤ x.getD 3 0) : mVr n (x :: r) := by
  refine ⟨h.1, fun y hy => ?_, h.2.2⟩
  obtain ⟨a, b, v, hv, ev⟩ := h.2.1 y hy
  refine ⟨a, b, v, ?_, ev⟩
  obtain ⟨_, _, u, hu, eu⟩ := h.2.1 x List.mem_cons_self
  have hu2 : u ≤ 2 := by
    rw [eu] at hx
    have : ¬ 3 ≤ u := fun q => hx (nI_le q (by omega))
    omega
  rcases List.mem_cons.mp hy with z | z
  · subst z
    rw [eu] at ev
    have := (nI_eq (by omega) (by omega)).mp ev
    omega
  · have z2 := (List.pairwise_cons.mp h.2.2).1 y z
    rw [eu, ev, nI_leI (by omega) (by omega)] at z2
    omega
theorem mInv.pop {n D : Nat} {ow : Nat → Bool} {i : Nat} (hi : i < n) : ∀ (r : List (List Int32)) (M : mM), M.2.1 i = r → mVr3 n r → mRn M i → mInv n D ow (mRl M i []) → mInv n D ow (mPop n i r.length M)
  | [], M, e, _, _, h => by rw [mRl_id e] at h; exact h
  | x :: r, M, e, h3, hr, h => by
    show mInv n D ow (mPop n i (r.length + 1) M)
    rw [mPop_s e]
    by_cases q : 3 ≤ x.getD 3 0
    · rw [if_pos q]
      obtain ⟨a, b, _⟩ := h3.2.1 x List.mem_cons_self
      refine mInv.pop hi r _ (by rw [mSend_r, mRl_at]) h3.tail (by unfold mRn; rw [mSend_1 (by decide)]; exact hr) ?_
      rw [← mSend_rl, mRl_rl]
      exact h.send hi hr a a b
    · rw [if_neg q]
      have t := h.rl (i := i) (r := x :: r) (fun _ => h3.low q) hi hr
      rw [mRl_rl, mRl_id e] at t
      exact t
theorem mVr_nil {n : Nat} : mVr n [] := ⟨by decide, (fun x hx => nomatch hx), List.Pairwise.nil⟩
theorem mInv.age {n D : Nat} {ow : Nat → Bool} {M : mM} (h : mInv n D ow M) {i : Nat} (hi : i < n) (hr : mRn M i) : mInv n D ow (mAge n M i) := by
  have hv := (h.2.2.2.2 i hi hr).2.2.2.1
  rw [mAge_pop hv, ← List.length_map (f := mInc)]
  refine mInv.pop hi _ _ mRl_at hv.inc hr ?_
  rw [mRl_rl]
  exact h.rl (fun _ => mVr_nil) hi hr
theorem mInv.become {n D : Nat} {ow : Nat → Bool} {M : mM} (h : mInv n D ow M) {i k s : Nat} {inc w : Int32} (hk : k ≠ i) (h1 : 1 ≤ s) (h3 : s ≤ 3) : mInv n D ow (mBecome M i k (nI s) inc w) := h.upd (i := i) (Nat.le_refl _) (mAt.rf.become) (fun hi hr ⟨v1, v2, v3, v4, v5⟩ => ⟨v1.of (mBecome_1 (by decide)) (mBecome_1 (by decide)) (mBecome_1 (by decide)), v2.become h1 h3, fun q => ⟨by rw [mBecome_ne (by omega)]; exact (v3 q).1, by rw [mBecome_ne (by omega)]; exact (v3 q).2⟩, v4, v5.of (fun f hf => mBecome_1 hf)⟩)
theorem mInv.bury {n D : Nat} {ow : Nat → Bool} {M : mM} (h : mInv n D ow M) {i : Nat} {w : Int32} : ∀ k, mInv n D ow (mBury M i w k)
  | 0 => h
  | k + 1 => by
    rw [mBury, mBury1]
    split
    · rename_i q
      exact (h.bury k).become (s := 3) q.1 (by decide) (by decide)
    · exact h.bury k
theorem mInv.nf {n D : Nat} {ow : Nat → Bool} {M M' : mM} (h : mInv n D ow M) {i : Nat} (ha : mAt i M M') (he : ∀ f j, f < 5 → M'.1 f i j = M.1 f i j) (hrl : M'.2.1 i = M.2.1 i) (hn : i < n → mRn M i → mNi n M i → mVp D M i → mNi n M' i ∧ mVp D M' i) : mInv n D ow M' := h.upd (i := i) (Nat.le_refl _) ha (fun hi hr ⟨v1, v2, v3, v4, v5⟩ => ⟨(hn hi hr v1 v5).1, v2.of he, fun q => ⟨(he 0 i (by decide)).trans (v3 q).1, (he 3 i (by decide)).trans (v3 q).2⟩, by rw [hrl]; exact v4, (hn hi hr v1 v5).2⟩)
theorem isN_ne {n m : Nat} (hn : n ≤ 8) (h : m < n) : nI m ≠ -1 := fun e => (by decide +kernel : ∀ m, m < 8 → nI m ≠ -1) m (by omega) e
theorem mOkS_ne {M : mM} {i m : Nat} {w : Int32} (h : mOkS M i w m = true) : m ≠ i := (of_decide_eq_true h).1
theorem mInv.probe {n D : Nat} {ow : Nat → Bool} {M : mM} (h : mInv n D ow M) {i m : Nat} (hi : i < n) (hr : mRn M i) (hm : m < n) (hne : m ≠ i) {v : Int32} : mInv n D ow (mProbe n (mSet M 19 i 0 v) i m) := by
  have h8 := h.1.2
  unfold mProbe
  refine mInv.send ?_ hi ?_ ⟨m, hm, rfl⟩ ⟨i, hi, rfl⟩ ⟨m, hm, rfl⟩
  · refine h.nf (i := i) ((((((((mAt.rf.set (by decide)).set (by decide)).set (by decide)).set (by decide)).set (by decide)).set (by decide)).set (by decide)).set (by decide)) (fun f j hf => ?_) rfl (fun _ _ v1 v5 => ⟨⟨?_, ?_, ?_⟩, ?_⟩)
    · simp only [mSet]; simp [show f ≠ 26 by omega, show f ≠ 25 by omega, show f ≠ 24 by omega, show f ≠ 23 by omega, show f ≠ 22 by omega, show f ≠ 21 by omega, show f ≠ 20 by omega, show f ≠ 19 by omega]
    · refine ⟨m, hm, ?_⟩; simp [mSet]
    · have := v1.2.1; simpa [mSet] using this
    · right; refine ⟨m, hm, ?_⟩; simp [mSet]
    · unfold mVp
      refine ⟨?_, ?_, ?_, ?_⟩
      · have := v5.1; simpa [mSet] using this
      · refine ⟨0, by omega, ?_⟩; simp [mSet]; rfl
      · intro q; exact absurd (by simpa [mSet] using q) (isN_ne h8 hm)
      · intro _
        refine ⟨?_, 0, 0, 0, by omega, by omega, by omega, ?_, ?_, ?_, fun _ => rfl⟩
        · have : nI m ≠ nI i := fun q => hne ((nI_eq (by omega) (by omega)).mp q)
          simpa [mSet] using this
        · simp [mSet]; rfl
        · simp [mSet]; rfl
        · simp [mSet]; rfl
  · unfold mRn at hr ⊢; simpa [mSet] using hr
theorem mInv.rest {n D : Nat} {ow : Nat → Bool} {M : mM} (h : mInv n D ow M) {i : Nat} (hi : i < n) (hr : mRn M i) (hp : M.1 21 i 0 = -1) : mInv n D ow (mRest n M i) := by
  obtain ⟨v1, v2, v3, v4, v5⟩ := h.2.2.2.2 i hi hr
  obtain ⟨z1, z2, r, r1, r5, er⟩ := v5.2.2.1 hp
  have set : ∀ x, 1 ≤ x → x ≤ 5 → mInv n D ow (mSet M 19 i 0 (nI x)) := fun x x1 x5 => by
    refine h.nf (i := i) (mAt.rf.set (by decide)) (fun f j hf => mSet_ne (by omega)) rfl (fun _ _ v1 v5 => ⟨v1.of (mSet_ne (by omega)) (mSet_ne (by omega)) (mSet_ne (by omega)), ?_⟩)
    unfold mVp at v5 ⊢
    rw [mSet_eq, mSet_ne (by omega), mSet_ne (by omega), mSet_ne (by omega), mSet_ne (by omega), mSet_ne (by omega), mSet_ne (by omega)]
    exact ⟨v5.1, v5.2.1, fun q => ⟨(v5.2.2.1 q).1, (v5.2.2.1 q).2.1, x, x1, x5, rfl⟩, v5.2.2.2⟩
  unfold mRest
  by_cases e : M.1 19 i 0 - 1 ≤ 0
  · simp only [e, if_true]
    cases hx : mNext n (M.1 22 i 0).toNatClampNeg (mOkS M i 2) with
    | none =>
      have t := set 3 (by decide) (by decide)
      have e2 : mSet (mSet M 19 i 0 (M.1 19 i 0 - 1)) 19 i 0 3 = mSet M 19 i 0 (nI 3) := by
        refine mM_ext (fun f i2 j2 => ?_) rfl
        simp only [mSet]
        split <;> rfl
      show mInv n D ow (mSet (mSet M 19 i 0 (M.1 19 i 0 - 1)) 19 i 0 3)
      rw [e2]; exact t
    | some m =>
      obtain ⟨a, b⟩ := mNextF_lt (by omega) hx
      exact h.probe hi hr a (mOkS_ne b)
  · simp only [e, if_false]
    rw [er] at e ⊢
    obtain ⟨u, rfl⟩ : ∃ u, r = u + 1 := ⟨r - 1, by omega⟩
    rw [nI_pred] at e ⊢
    have : u ≠ 0 := fun q => e (by rw [q]; decide)
    exact set u (by omega) (by omega)
theorem mInv.askF {n D : Nat} {ow : Nat → Bool} {i : Nat} (hi : i < n) : ∀ (rem k : Nat) (M : mM), mInv n D ow M → mRn M i → M.1 21 i 0 ≠ -1 → ¬ M.1 23 i 0 < 3 → mInv n D ow (mAskF n i rem k M)
  | 0, k, M, h, _, _, _ => h
  | rem + 1, k, M, h, hr, hp, hc => by
    rw [mAskF]
    split
    · exact h
    · rename_i h2
      split
      · obtain ⟨v1, v2, v3, v4, v5⟩ := h.2.2.2.2 i hi hr
        have hn : 0 < n := by omega
        have hg : isN n (M.1 21 i 0) := v1.2.2.resolve_left hp
        have t := h.send (kind := 3) (no := M.1 20 i 0) hi hr ⟨((M.1 21 i 0).toNatClampNeg + k) % n, Nat.mod_lt _ hn, rfl⟩ ⟨i, hi, rfl⟩ hg
        refine mInv.askF hi rem (k + 1) _ ?_ ?_ ?_ ?_
        · refine t.nf (i := i) (mAt.rf.set (by decide)) (fun f j hf => mSet_ne (by omega)) rfl (fun _ _ w1 w5 => ⟨w1.of (mSet_ne (by omega)) (mSet_ne (by omega)) (mSet_ne (by omega)), ?_⟩)
          unfold mVp at w5 ⊢
          rw [mSet_eq, mSet_ne (by omega), mSet_ne (by omega), mSet_ne (by omega), mSet_ne (by omega), mSet_ne (by omega), mSet_ne (by omega)]
          refine ⟨w5.1, w5.2.1, w5.2.2.1, fun q => ?_⟩
          obtain ⟨q0, c, a, kk, q1, q2, q3, q4, q5, q6, q7⟩ := w5.2.2.2 q
          have q4' := q4
          rw [mSend_1 (by decide)] at q5 q4'
          rw [q5] at h2 ⊢
          have ha : ¬ 2 ≤ a := fun z => h2 (nI_le z (by omega))
          rw [q4'] at hc
          have hc3 : ¬ c < 3 := fun z => hc (nI_lt z (by decide))
          exact ⟨q0, c, a + 1, kk, q1, by omega, q3, q4, nI_1 a, q6, fun z => absurd z hc3⟩
        · unfold mRn; rw [mSet_ne (by omega), mSend_1 (by decide)]; exact hr
        · rw [mSet_ne (by omega), mSend_1 (by decide)]; exact hp
        · rw [mSet_ne (by omega), mSend_1 (by decide)]; exact hc
      · exact mInv.askF hi rem (k + 1) M h hr hp hc
theorem mSync_inv {n D : Nat} {ow : Nat → Bool} {M : mM} (h : mInv n D ow M) {i : Nat} (hi : i < n) (hr : mRn M i) : mInv n D ow (mSync n M i) := by
  unfold mSync
  cases hx : mNext n (M.1 27 i 0).toNatClampNeg (mOkS M i 1) with
  | none => exact h
  | some m =>
    obtain ⟨a, b⟩ := mNextF_lt (by omega) hx
    refine mInv.send ?_ hi ?_ ⟨m, a, rfl⟩ (isN_0 h) (isN_0 h)
    · refine h.nf (i := i) (mAt.rf.set (by decide)) (fun f j hf => mSet_ne (by omega)) rfl (fun _ _ v1 v5 => ⟨⟨?_, ?_, ?_⟩, ?_⟩)
      · rw [mSet_ne (by omega)]; exact v1.1
      · rw [mSet_eq]; exact ⟨m, a, rfl⟩
      · rw [mSet_ne (by omega)]; exact v1.2.2
      · unfold mVp at v5 ⊢
        rw [mSet_ne (by omega), mSet_ne (by omega), mSet_ne (by omega), mSet_ne (by omega), mSet_ne (by omega), mSet_ne (by omega), mSet_ne (by omega)]
        exact v5
    · unfold mRn; rw [mSet_ne (by omega)]; exact hr
