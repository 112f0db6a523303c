/-! the cells by name: (kind, i, j), in the order in which they are made -/
abbrev gK : Type := Nat × Nat × Nat
abbrev gV : Type := Int32 ⊕ Option gK
abbrev gS : Type := (gK → Nat → Int32) × (gK → Nat → Option gK)
/-- how many nodes, the first address, the array classes, the tables -/
abbrev gG : Type := Nat × Nat × (Nat → ClassId) × va_G
def gNodeKs (n i : Nat) : List gK := [(7, i, 0), (10, i, 0), (8, i, 0)] ++ (List.range n).map (fun j => (9, i, j)) ++ (List.range 4).map (fun r => (11, i, r))
def gOrd (n : Nat) : List gK := [(0, 0, 0), (3, 0, 0), (4, 0, 0), (4, 1, 0), (5, 120, 0), (6, 120, 0)] ++ (List.range 60).flatMap (fun i => [(5, i, 0), (6, i, 0), (5, 60 + i, 0), (6, 60 + i, 0)]) ++ [(2, 0, 0), (1, 0, 0)] ++ (List.range n).flatMap (gNodeKs n) ++ [(20, 0, 0)] ++ (List.range 25).map (fun k => (21 + k, 0, 0))
/-- what a cell is: an object of a class (its number in gCl), or an array (the number of its type, its length) -/
def gSh (n : Nat) (k : gK) : Nat ⊕ (Nat × Nat) := match k.1 with
  | 0 => .inl 5
  | 1 => .inr (2, n)
  | 2 => .inr (0, n)
  | 3 => .inl 1
  | 4 => .inr (3, 60)
  | 5 => .inl 2
  | 6 => .inr (0, 24)
  | 7 => .inl 3
  | 8 => .inr (4, n)
  | 9 => .inl 0
  | 10 => .inr (5, 4)
  | 11 => .inl 4
  | 20 => .inl 6
  | 21 => .inr (0, 1920)
  | 22 => .inr (0, 32)
  | 23 => .inr (1, 64)
  | 24 => .inr (1, 8)
  | 25 => .inr (0, 8)
  | 26 => .inr (0, 8)
  | 27 => .inr (0, 64)
  | 28 => .inr (0, 64)
  | 29 => .inr (0, 64)
  | 30 => .inr (0, 64)
  | 31 => .inr (0, 64)
  | 32 => .inr (0, 64)
  | 33 => .inr (0, 64)
  | 34 => .inr (0, 8)
  | 35 => .inr (0, 128)
  | 36 => .inr (1, 8)
  | 37 => .inr (0, 8)
  | 38 => .inr (0, 8)
  | 39 => .inr (1, 8)
  | _ => .inr (0, 8)
def gNt : Nat := 6
def gTy (t : Nat) : FieldType := match t with
  | 0 => .int
  | 1 => .boolean
  | 2 => .object "GossipNodes$Node"
  | 3 => .object "GossipNodes$Message"
  | 4 => .object "GossipNodes$Entry"
  | _ => .object "GossipNodes$Relay"
theorem gTy_0 : 0 < gNt ∧ 1 < gNt ∧ 2 < gNt := by decide
/-- the address of a cell; what is no cell of ours names its address itself -/
def gAd (G : gG) (k : gK) : Nat := if k ∈ gOrd G.1 then G.2.1 + (gOrd G.1).idxOf k else k.2.1
