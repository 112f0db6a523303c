/-! class tables, the list of words, names of methods (written by gen/names.py) -/
def qR_E : String := "GossipNodes$Entry"
def qT_E : u_T := fun k => match k with
  | 0 => ("GossipNodes$Entry", "state", "I", false)
  | 1 => ("GossipNodes$Entry", "incarnation", "I", false)
  | 2 => ("GossipNodes$Entry", "since", "I", false)
  | 3 => ("GossipNodes$Entry", "confirmers", "I", false)
  | _ => ("GossipNodes$Entry", "sendings", "I", false)
def qt_E : Nat → FieldType := fun k => match k with
  | 0 => .int
  | 1 => .int
  | 2 => .int
  | 3 => .int
  | _ => .int
theorem qn_E : ∀ a, a < 5 → ∀ b, b < 5 → a ≠ b → (qT_E a).2.1 ≠ (qT_E b).2.1 := by decide +kernel
theorem qk_E : ∀ k, k < 5 → parseFieldDescriptor (qT_E k).2.2.1 = some (qt_E k) := by decide +kernel
def qR_F : String := "GossipNodes$Flight"
def qT_F : u_T := fun k => match k with
  | 0 => ("GossipNodes$Flight", "waiting", "[LGossipNodes$Message;", false)
  | 1 => ("GossipNodes$Flight", "landed", "[LGossipNodes$Message;", false)
  | 2 => ("GossipNodes$Flight", "lost", "LGossipNodes$Message;", true)
  | _ => ("GossipNodes$Flight", "size", "I", false)
def qt_F : Nat → FieldType := fun k => match k with
  | 0 => .array (.object "GossipNodes$Message")
  | 1 => .array (.object "GossipNodes$Message")
  | 2 => .object "GossipNodes$Message"
  | _ => .int
theorem qn_F : ∀ a, a < 4 → ∀ b, b < 4 → a ≠ b → (qT_F a).2.1 ≠ (qT_F b).2.1 := by decide +kernel
theorem qk_F : ∀ k, k < 4 → parseFieldDescriptor (qT_F k).2.2.1 = some (qt_F k) := by decide +kernel
def qR_M : String := "GossipNodes$Message"
def qT_M : u_T := fun k => match k with
  | 0 => ("GossipNodes$Message", "kind", "I", false)
  | 1 => ("GossipNodes$Message", "sender", "I", false)
  | 2 => ("GossipNodes$Message", "receiver", "I", false)
  | 3 => ("GossipNodes$Message", "number", "I", false)
  | 4 => ("GossipNodes$Message", "origin", "I", false)
  | 5 => ("GossipNodes$Message", "target", "I", false)
  | 6 => ("GossipNodes$Message", "newsCount", "I", false)
  | _ => ("GossipNodes$Message", "news", "[I", true)
def qt_M : Nat → FieldType := fun k => match k with
  | 0 => .int
  | 1 => .int
  | 2 => .int
  | 3 => .int
  | 4 => .int
  | 5 => .int
  | 6 => .int
  | _ => .array (.int)
theorem qn_M : ∀ a, a < 8 → ∀ b, b < 8 → a ≠ b → (qT_M a).2.1 ≠ (qT_M b).2.1 := by decide +kernel
theorem qk_M : ∀ k, k < 8 → parseFieldDescriptor (qT_M k).2.2.1 = some (qt_M k) := by decide +kernel
def qR_N : String := "GossipNodes$Node"
def qT_N : u_T := fun k => match k with
  | 0 => ("GossipNodes$Node", "id", "I", true)
  | 1 => ("GossipNodes$Node", "count", "I", true)
  | 2 => ("GossipNodes$Node", "flight", "LGossipNodes$Flight;", true)
  | 3 => ("GossipNodes$Node", "table", "[LGossipNodes$Entry;", true)
  | 4 => ("GossipNodes$Node", "relays", "[LGossipNodes$Relay;", true)
  | 5 => ("GossipNodes$Node", "runs", "Z", false)
  | 6 => ("GossipNodes$Node", "began", "I", false)
  | 7 => ("GossipNodes$Node", "score", "I", false)
  | 8 => ("GossipNodes$Node", "relayCount", "I", false)
  | 9 => ("GossipNodes$Node", "rest", "I", false)
  | 10 => ("GossipNodes$Node", "probeNumber", "I", false)
  | 11 => ("GossipNodes$Node", "probed", "I", false)
  | 12 => ("GossipNodes$Node", "lastProbed", "I", false)
  | 13 => ("GossipNodes$Node", "clock", "I", false)
  | 14 => ("GossipNodes$Node", "answered", "Z", false)
  | 15 => ("GossipNodes$Node", "asked", "I", false)
  | 16 => ("GossipNodes$Node", "nacks", "I", false)
  | _ => ("GossipNodes$Node", "lastSynced", "I", false)
def qt_N : Nat → FieldType := fun k => match k with
  | 0 => .int
  | 1 => .int
  | 2 => .object "GossipNodes$Flight"
  | 3 => .array (.object "GossipNodes$Entry")
  | 4 => .array (.object "GossipNodes$Relay")
  | 5 => .boolean
  | 6 => .int
  | 7 => .int
  | 8 => .int
  | 9 => .int
  | 10 => .int
  | 11 => .int
  | 12 => .int
  | 13 => .int
  | 14 => .boolean
  | 15 => .int
  | 16 => .int
  | _ => .int
theorem qn_N : ∀ a, a < 18 → ∀ b, b < 18 → a ≠ b → (qT_N a).2.1 ≠ (qT_N b).2.1 := by decide +kernel
theorem qk_N : ∀ k, k < 18 → parseFieldDescriptor (qT_N k).2.2.1 = some (qt_N k) := by decide +kernel
def qR_R : String := "GossipNodes$Relay"
def qT_R : u_T := fun k => match k with
  | 0 => ("GossipNodes$Relay", "number", "I", false)
  | 1 => ("GossipNodes$Relay", "origin", "I", false)
  | 2 => ("GossipNodes$Relay", "target", "I", false)
  | _ => ("GossipNodes$Relay", "age", "I", false)
def qt_R : Nat → FieldType := fun k => match k with
  | 0 => .int
  | 1 => .int
  | 2 => .int
  | _ => .int
theorem qn_R : ∀ a, a < 4 → ∀ b, b < 4 → a ≠ b → (qT_R a).2.1 ≠ (qT_R b).2.1 := by decide +kernel
theorem qk_R : ∀ k, k < 4 → parseFieldDescriptor (qT_R k).2.2.1 = some (qt_R k) := by decide +kernel
def qR_G : String := "GossipNodes"
def qT_G : u_T := fun k => match k with
  | 0 => ("GossipNodes", "count", "I", true)
  | 1 => ("GossipNodes", "nodes", "[LGossipNodes$Node;", true)
  | 2 => ("GossipNodes", "cutFrom", "[I", true)
  | 3 => ("GossipNodes", "onTheWay", "LGossipNodes$Flight;", true)
  | _ => ("GossipNodes", "time", "I", false)
def qt_G : Nat → FieldType := fun k => match k with
  | 0 => .int
  | 1 => .array (.object "GossipNodes$Node")
  | 2 => .array (.int)
  | 3 => .object "GossipNodes$Flight"
  | _ => .int
theorem qn_G : ∀ a, a < 5 → ∀ b, b < 5 → a ≠ b → (qT_G a).2.1 ≠ (qT_G b).2.1 := by decide +kernel
theorem qk_G : ∀ k, k < 5 → parseFieldDescriptor (qT_G k).2.2.1 = some (qt_G k) := by decide +kernel
def qR_Z : String := "GossipNodesModel"
def qT_Z : u_T := fun k => match k with
  | 0 => ("GossipNodesModel", "nodes", "I", false)
  | 1 => ("GossipNodesModel", "now", "I", false)
  | 2 => ("GossipNodesModel", "flight", "I", false)
  | 3 => ("GossipNodesModel", "messages", "[I", false)
  | 4 => ("GossipNodesModel", "taken", "[I", false)
  | 5 => ("GossipNodesModel", "cut", "[Z", false)
  | 6 => ("GossipNodesModel", "runs", "[Z", false)
  | 7 => ("GossipNodesModel", "began", "[I", false)
  | 8 => ("GossipNodesModel", "score", "[I", false)
  | 9 => ("GossipNodesModel", "state", "[I", false)
  | 10 => ("GossipNodesModel", "incarnation", "[I", false)
  | 11 => ("GossipNodesModel", "since", "[I", false)
  | 12 => ("GossipNodesModel", "confirmed", "[I", false)
  | 13 => ("GossipNodesModel", "sendings", "[I", false)
  | 14 => ("GossipNodesModel", "newsState", "[I", false)
  | 15 => ("GossipNodesModel", "newsIncarnation", "[I", false)
  | 16 => ("GossipNodesModel", "relays", "[I", false)
  | 17 => ("GossipNodesModel", "relay", "[I", false)
  | 18 => ("GossipNodesModel", "probes", "[Z", false)
  | 19 => ("GossipNodesModel", "target", "[I", false)
  | 20 => ("GossipNodesModel", "clock", "[I", false)
  | 21 => ("GossipNodesModel", "answered", "[Z", false)
  | 22 => ("GossipNodesModel", "number", "[I", false)
  | 23 => ("GossipNodesModel", "rest", "[I", false)
  | 24 => ("GossipNodesModel", "asked", "[I", false)
  | 25 => ("GossipNodesModel", "nacks", "[I", false)
  | 26 => ("GossipNodesModel", "probed", "[I", false)
  | _ => ("GossipNodesModel", "synced", "[I", false)
def qt_Z : Nat → FieldType := fun k => match k with
  | 0 => .int
  | 1 => .int
  | 2 => .int
  | 3 => .array (.int)
  | 4 => .array (.int)
  | 5 => .array (.boolean)
  | 6 => .array (.boolean)
  | 7 => .array (.int)
  | 8 => .array (.int)
  | 9 => .array (.int)
  | 10 => .array (.int)
  | 11 => .array (.int)
  | 12 => .array (.int)
  | 13 => .array (.int)
  | 14 => .array (.int)
  | 15 => .array (.int)
  | 16 => .array (.int)
  | 17 => .array (.int)
  | 18 => .array (.boolean)
  | 19 => .array (.int)
  | 20 => .array (.int)
  | 21 => .array (.boolean)
  | 22 => .array (.int)
  | 23 => .array (.int)
  | 24 => .array (.int)
  | 25 => .array (.int)
  | 26 => .array (.int)
  | _ => .array (.int)
theorem qn_Z : ∀ a, a < 28 → ∀ b, b < 28 → a ≠ b → (qT_Z a).2.1 ≠ (qT_Z b).2.1 := by decide +kernel
theorem qk_Z : ∀ k, k < 28 → parseFieldDescriptor (qT_Z k).2.2.1 = some (qt_Z k) := by decide +kernel
def gCl : List vw_C := [(qR_E, qT_E, 5), (qR_F, qT_F, 4), (qR_M, qT_M, 8), (qR_N, qT_N, 18), (qR_R, qT_R, 4), (qR_G, qT_G, 5), (qR_Z, qT_Z, 28)]
def gNf : Nat → Nat := fun c => match c with
  | 0 => 5
  | 1 => 4
  | 2 => 8
  | 3 => 18
  | 4 => 4
  | 5 => 5
  | 6 => 28
  | _ => 0
def gRf : Nat → Nat → Bool := fun c f => match c with
  | 0 => false
  | 1 => f == 0 || f == 1 || f == 2
  | 2 => f == 7
  | 3 => f == 2 || f == 3 || f == 4
  | 4 => false
  | 5 => f == 1 || f == 2 || f == 3
  | 6 => f == 3 || f == 4 || f == 5 || f == 6 || f == 7 || f == 8 || f == 9 || f == 10 || f == 11 || f == 12 || f == 13 || f == 14 || f == 15 || f == 16 || f == 17 || f == 18 || f == 19 || f == 20 || f == 21 || f == 22 || f == 23 || f == 24 || f == 25 || f == 26 || f == 27
  | _ => false
/-- the words that go along with every call -/
def gTb : List Cond := lw_tbl.filter goodWord
theorem gTb_good : ∀ w ∈ gTb, goodWord w = true := fun w h => (List.mem_filter.mp h).2
theorem gTb_at {i : Nat} {w : Cond} (h : tables_1[i]? = some w) (hg : goodWord w = true) : w ∈ gTb := List.mem_filter.mpr ⟨List.mem_append_right _ (List.mem_of_getElem? h), hg⟩
theorem gTb_1 {i : Nat} {w : Cond} (h : tables_1_1[i]? = some w) (hg : goodWord w = true) : w ∈ gTb := List.mem_filter.mpr ⟨List.mem_append_right _ (List.mem_append_left _ (List.mem_of_getElem? h)), hg⟩
theorem gTb_2 {i : Nat} {w : Cond} (h : tables_1_2[i]? = some w) (hg : goodWord w = true) : w ∈ gTb := List.mem_filter.mpr ⟨List.mem_append_right _ (List.mem_append_right _ (List.mem_append_left _ (List.mem_of_getElem? h))), hg⟩
theorem gTb_3 {i : Nat} {w : Cond} (h : tables_1_3[i]? = some w) (hg : goodWord w = true) : w ∈ gTb := List.mem_filter.mpr ⟨List.mem_append_right _ (List.mem_append_right _ (List.mem_append_right _ (List.mem_append_left _ (List.mem_of_getElem? h)))), hg⟩
theorem gTb_4 {i : Nat} {w : Cond} (h : tables_1_4[i]? = some w) (hg : goodWord w = true) : w ∈ gTb := List.mem_filter.mpr ⟨List.mem_append_right _ (List.mem_append_right _ (List.mem_append_right _ (List.mem_append_right _ (List.mem_of_getElem? h)))), hg⟩
theorem gTb_sel {i : Nat} {q : MethodName × Nat} (h : lw_privs[i]? = some q) : Cond.selects q.1.cls q.1 q.1 ∈ gTb := List.mem_filter.mpr ⟨List.mem_append_left _ (List.mem_map.mpr ⟨q, List.mem_of_getElem? h, rfl⟩), rfl⟩
theorem qu_E : ∀ w ∈ u_ws qR_E qT_E 5, w ∈ gTb := by
  intro w h
  obtain ⟨k, hk, rfl⟩ := List.mem_map.mp h
  have hk := List.mem_range.mp hk
  match k, hk with
  | 0, _ => exact (gTb_1 (i := 122) (by rfl) rfl)
  | 1, _ => exact (gTb_1 (i := 124) (by rfl) rfl)
  | 2, _ => exact (gTb_1 (i := 126) (by rfl) rfl)
  | 3, _ => exact (gTb_1 (i := 128) (by rfl) rfl)
  | 4, _ => exact (gTb_1 (i := 130) (by rfl) rfl)
  | k + 5, hk => exact absurd hk (by omega)
theorem qu_F : ∀ w ∈ u_ws qR_F qT_F 4, w ∈ gTb := by
  intro w h
  obtain ⟨k, hk, rfl⟩ := List.mem_map.mp h
  have hk := List.mem_range.mp hk
  match k, hk with
  | 0, _ => exact (gTb_1 (i := 82) (by rfl) rfl)
  | 1, _ => exact (gTb_1 (i := 84) (by rfl) rfl)
  | 2, _ => exact (gTb_1 (i := 86) (by rfl) rfl)
  | 3, _ => exact (gTb_1 (i := 88) (by rfl) rfl)
  | k + 4, hk => exact absurd hk (by omega)
theorem qu_M : ∀ w ∈ u_ws qR_M qT_M 8, w ∈ gTb := by
  intro w h
  obtain ⟨k, hk, rfl⟩ := List.mem_map.mp h
  have hk := List.mem_range.mp hk
  match k, hk with
  | 0, _ => exact (gTb_1 (i := 57) (by rfl) rfl)
  | 1, _ => exact (gTb_1 (i := 59) (by rfl) rfl)
  | 2, _ => exact (gTb_1 (i := 61) (by rfl) rfl)
  | 3, _ => exact (gTb_1 (i := 63) (by rfl) rfl)
  | 4, _ => exact (gTb_1 (i := 65) (by rfl) rfl)
  | 5, _ => exact (gTb_1 (i := 67) (by rfl) rfl)
  | 6, _ => exact (gTb_1 (i := 69) (by rfl) rfl)
  | 7, _ => exact (gTb_1 (i := 71) (by rfl) rfl)
  | k + 8, hk => exact absurd hk (by omega)
theorem qu_N : ∀ w ∈ u_ws qR_N qT_N 18, w ∈ gTb := by
  intro w h
  obtain ⟨k, hk, rfl⟩ := List.mem_map.mp h
  have hk := List.mem_range.mp hk
  match k, hk with
  | 0, _ => exact (gTb_1 (i := 174) (by rfl) rfl)
  | 1, _ => exact (gTb_1 (i := 176) (by rfl) rfl)
  | 2, _ => exact (gTb_1 (i := 178) (by rfl) rfl)
  | 3, _ => exact (gTb_1 (i := 180) (by rfl) rfl)
  | 4, _ => exact (gTb_1 (i := 182) (by rfl) rfl)
  | 5, _ => exact (gTb_1 (i := 184) (by rfl) rfl)
  | 6, _ => exact (gTb_1 (i := 186) (by rfl) rfl)
  | 7, _ => exact (gTb_1 (i := 188) (by rfl) rfl)
  | 8, _ => exact (gTb_1 (i := 190) (by rfl) rfl)
  | 9, _ => exact (gTb_1 (i := 192) (by rfl) rfl)
  | 10, _ => exact (gTb_1 (i := 194) (by rfl) rfl)
  | 11, _ => exact (gTb_1 (i := 196) (by rfl) rfl)
  | 12, _ => exact (gTb_1 (i := 198) (by rfl) rfl)
  | 13, _ => exact (gTb_1 (i := 200) (by rfl) rfl)
  | 14, _ => exact (gTb_1 (i := 202) (by rfl) rfl)
  | 15, _ => exact (gTb_1 (i := 204) (by rfl) rfl)
  | 16, _ => exact (gTb_1 (i := 206) (by rfl) rfl)
  | 17, _ => exact (gTb_1 (i := 208) (by rfl) rfl)
  | k + 18, hk => exact absurd hk (by omega)
theorem qu_R : ∀ w ∈ u_ws qR_R qT_R 4, w ∈ gTb := by
  intro w h
  obtain ⟨k, hk, rfl⟩ := List.mem_map.mp h
  have hk := List.mem_range.mp hk
  match k, hk with
  | 0, _ => exact (gTb_1 (i := 145) (by rfl) rfl)
  | 1, _ => exact (gTb_1 (i := 147) (by rfl) rfl)
  | 2, _ => exact (gTb_1 (i := 149) (by rfl) rfl)
  | 3, _ => exact (gTb_1 (i := 151) (by rfl) rfl)
  | k + 4, hk => exact absurd hk (by omega)
theorem qu_G : ∀ w ∈ u_ws qR_G qT_G 5, w ∈ gTb := by
  intro w h
  obtain ⟨k, hk, rfl⟩ := List.mem_map.mp h
  have hk := List.mem_range.mp hk
  match k, hk with
  | 0, _ => exact (gTb_1 (i := 216) (by rfl) rfl)
  | 1, _ => exact (gTb_1 (i := 218) (by rfl) rfl)
  | 2, _ => exact (gTb_1 (i := 220) (by rfl) rfl)
  | 3, _ => exact (gTb_1 (i := 222) (by rfl) rfl)
  | 4, _ => exact (gTb_1 (i := 224) (by rfl) rfl)
  | k + 5, hk => exact absurd hk (by omega)
theorem qu_Z : ∀ w ∈ u_ws qR_Z qT_Z 28, w ∈ gTb := by
  intro w h
  obtain ⟨k, hk, rfl⟩ := List.mem_map.mp h
  have hk := List.mem_range.mp hk
  match k, hk with
  | 0, _ => exact (gTb_3 (i := 40) (by rfl) rfl)
  | 1, _ => exact (gTb_3 (i := 42) (by rfl) rfl)
  | 2, _ => exact (gTb_3 (i := 44) (by rfl) rfl)
  | 3, _ => exact (gTb_3 (i := 46) (by rfl) rfl)
  | 4, _ => exact (gTb_3 (i := 48) (by rfl) rfl)
  | 5, _ => exact (gTb_3 (i := 50) (by rfl) rfl)
  | 6, _ => exact (gTb_3 (i := 52) (by rfl) rfl)
  | 7, _ => exact (gTb_3 (i := 54) (by rfl) rfl)
  | 8, _ => exact (gTb_3 (i := 56) (by rfl) rfl)
  | 9, _ => exact (gTb_3 (i := 58) (by rfl) rfl)
  | 10, _ => exact (gTb_3 (i := 60) (by rfl) rfl)
  | 11, _ => exact (gTb_3 (i := 62) (by rfl) rfl)
  | 12, _ => exact (gTb_3 (i := 64) (by rfl) rfl)
  | 13, _ => exact (gTb_3 (i := 66) (by rfl) rfl)
  | 14, _ => exact (gTb_3 (i := 68) (by rfl) rfl)
  | 15, _ => exact (gTb_3 (i := 70) (by rfl) rfl)
  | 16, _ => exact (gTb_3 (i := 72) (by rfl) rfl)
  | 17, _ => exact (gTb_3 (i := 74) (by rfl) rfl)
  | 18, _ => exact (gTb_3 (i := 76) (by rfl) rfl)
  | 19, _ => exact (gTb_3 (i := 78) (by rfl) rfl)
  | 20, _ => exact (gTb_3 (i := 80) (by rfl) rfl)
  | 21, _ => exact (gTb_3 (i := 82) (by rfl) rfl)
  | 22, _ => exact (gTb_3 (i := 84) (by rfl) rfl)
  | 23, _ => exact (gTb_3 (i := 86) (by rfl) rfl)
  | 24, _ => exact (gTb_3 (i := 88) (by rfl) rfl)
  | 25, _ => exact (gTb_3 (i := 90) (by rfl) rfl)
  | 26, _ => exact (gTb_3 (i := 92) (by rfl) rfl)
  | 27, _ => exact (gTb_3 (i := 94) (by rfl) rfl)
  | k + 28, hk => exact absurd hk (by omega)
abbrev qc_G_init : ByteArray := prog_1_method_1_code
def qy_G_init : MethodName := ⟨"GossipNodes", "<init>", "(I)V"⟩
def qw_G_init : List Cond := .code qy_G_init qc_G_init 3 none :: gTb
theorem qi_G_init : Cond.code qy_G_init qc_G_init 3 none ∈ gTb := (gTb_1 (i := 14) (by rfl) rfl)
abbrev qc_F_init : ByteArray := prog_3_method_1_code
def qy_F_init : MethodName := ⟨"GossipNodes$Flight", "<init>", "()V"⟩
def qw_F_init : List Cond := .code qy_F_init qc_F_init 2 none :: gTb
theorem qi_F_init : Cond.code qy_F_init qc_F_init 2 none ∈ gTb := (gTb_1 (i := 28) (by rfl) rfl)
abbrev qc_M_init : ByteArray := prog_4_method_1_code
def qy_M_init : MethodName := ⟨"GossipNodes$Message", "<init>", "()V"⟩
def qw_M_init : List Cond := .code qy_M_init qc_M_init 1 none :: gTb
theorem qi_M_init : Cond.code qy_M_init qc_M_init 1 none ∈ gTb := (gTb_1 (i := 35) (by rfl) rfl)
abbrev qc_N_init : ByteArray := prog_5_method_1_code
def qy_N_init : MethodName := ⟨"GossipNodes$Node", "<init>", "(IILGossipNodes$Flight;)V"⟩
def qw_N_init : List Cond := .code qy_N_init qc_N_init 5 none :: gTb
theorem qi_N_init : Cond.code qy_N_init qc_N_init 5 none ∈ gTb := (gTb_1 (i := 96) (by rfl) rfl)
abbrev qc_E_init : ByteArray := prog_2_method_1_code
def qy_E_init : MethodName := ⟨"GossipNodes$Entry", "<init>", "()V"⟩
def qw_E_init : List Cond := .code qy_E_init qc_E_init 1 none :: gTb
theorem qi_E_init : Cond.code qy_E_init qc_E_init 1 none ∈ gTb := (gTb_1 (i := 105) (by rfl) rfl)
abbrev qc_R_init : ByteArray := prog_6_method_1_code
def qy_R_init : MethodName := ⟨"GossipNodes$Relay", "<init>", "()V"⟩
def qw_R_init : List Cond := .code qy_R_init qc_R_init 1 none :: gTb
theorem qi_R_init : Cond.code qy_R_init qc_R_init 1 none ∈ gTb := (gTb_1 (i := 136) (by rfl) rfl)
abbrev qc_G_start : ByteArray := prog_1_method_2_code
def qy_G_start : MethodName := ⟨"GossipNodes", "start", "(II)Z"⟩
def qw_G_start : List Cond := .code qy_G_start qc_G_start 3 (some .boolean) :: gTb
theorem qi_G_start : Cond.code qy_G_start qc_G_start 3 (some .boolean) ∈ gTb := (gTb_1 (i := 230) (by rfl) rfl)
abbrev qc_G_isNode : ByteArray := prog_1_method_16_code
def qy_G_isNode : MethodName := ⟨"GossipNodes", "isNode", "(I)Z"⟩
def qw_G_isNode : List Cond := .code qy_G_isNode qc_G_isNode 2 (some .boolean) :: gTb
theorem qi_G_isNode : Cond.code qy_G_isNode qc_G_isNode 2 (some .boolean) ∈ gTb := (gTb_1 (i := 234) (by rfl) rfl)
abbrev qc_N_begin : ByteArray := prog_5_method_2_code
def qy_N_begin : MethodName := ⟨"GossipNodes$Node", "begin", "(I)V"⟩
def qw_N_begin : List Cond := .code qy_N_begin qc_N_begin 3 none :: gTb
theorem qi_N_begin : Cond.code qy_N_begin qc_N_begin 3 none ∈ gTb := (gTb_1 (i := 238) (by rfl) rfl)
abbrev qc_E_forget : ByteArray := prog_2_method_2_code
def qy_E_forget : MethodName := ⟨"GossipNodes$Entry", "forget", "()V"⟩
def qw_E_forget : List Cond := .code qy_E_forget qc_E_forget 1 none :: gTb
theorem qi_E_forget : Cond.code qy_E_forget qc_E_forget 1 none ∈ gTb := (gTb_2 (i := 2) (by rfl) rfl)
abbrev qc_E_become : ByteArray := prog_2_method_3_code
def qy_E_become : MethodName := ⟨"GossipNodes$Entry", "become", "(III)V"⟩
def qw_E_become : List Cond := .code qy_E_become qc_E_become 4 none :: gTb
theorem qi_E_become : Cond.code qy_E_become qc_E_become 4 none ∈ gTb := (gTb_2 (i := 6) (by rfl) rfl)
abbrev qc_E_announce : ByteArray := prog_2_method_5_code
def qy_E_announce : MethodName := ⟨"GossipNodes$Entry", "announce", "()V"⟩
def qw_E_announce : List Cond := .code qy_E_announce qc_E_announce 1 none :: gTb
theorem qi_E_announce : Cond.code qy_E_announce qc_E_announce 1 none ∈ gTb := (gTb_2 (i := 10) (by rfl) rfl)
abbrev qc_N_send : ByteArray := prog_5_method_4_code
def qy_N_send : MethodName := ⟨"GossipNodes$Node", "send", "(IIIII)V"⟩
def qw_N_send : List Cond := .code qy_N_send qc_N_send 7 none :: gTb
theorem qi_N_send : Cond.code qy_N_send qc_N_send 7 none ∈ gTb := (gTb_2 (i := 14) (by rfl) rfl)
abbrev qc_F_next : ByteArray := prog_3_method_2_code
def qy_F_next : MethodName := ⟨"GossipNodes$Flight", "next", "()LGossipNodes$Message;"⟩
def qw_F_next : List Cond := .code qy_F_next qc_F_next 1 (some (.object "GossipNodes$Message")) :: gTb
theorem qi_F_next : Cond.code qy_F_next qc_F_next 1 (some (.object "GossipNodes$Message")) ∈ gTb := (gTb_2 (i := 18) (by rfl) rfl)
abbrev qc_M_address : ByteArray := prog_4_method_2_code
def qy_M_address : MethodName := ⟨"GossipNodes$Message", "address", "(III)V"⟩
def qw_M_address : List Cond := .code qy_M_address qc_M_address 4 none :: gTb
theorem qi_M_address : Cond.code qy_M_address qc_M_address 4 none ∈ gTb := (gTb_2 (i := 22) (by rfl) rfl)
abbrev qc_M_concern : ByteArray := prog_4_method_3_code
def qy_M_concern : MethodName := ⟨"GossipNodes$Message", "concern", "(III)V"⟩
def qw_M_concern : List Cond := .code qy_M_concern qc_M_concern 4 none :: gTb
theorem qi_M_concern : Cond.code qy_M_concern qc_M_concern 4 none ∈ gTb := (gTb_2 (i := 26) (by rfl) rfl)
abbrev qc_N_loadTable : ByteArray := prog_5_method_5_code
def qy_N_loadTable : MethodName := ⟨"GossipNodes$Node", "loadTable", "(LGossipNodes$Message;)V"⟩
def qw_N_loadTable : List Cond := .code qy_N_loadTable qc_N_loadTable 3 none :: gTb
theorem qi_N_loadTable : Cond.code qy_N_loadTable qc_N_loadTable 3 none ∈ gTb := (gTb_2 (i := 30) (by rfl) rfl)
abbrev qc_M_carry : ByteArray := prog_4_method_4_code
def qy_M_carry : MethodName := ⟨"GossipNodes$Message", "carry", "(ILGossipNodes$Entry;)V"⟩
def qw_M_carry : List Cond := .code qy_M_carry qc_M_carry 4 none :: gTb
theorem qi_M_carry : Cond.code qy_M_carry qc_M_carry 4 none ∈ gTb := (gTb_2 (i := 34) (by rfl) rfl)
abbrev qc_N_loadQueued : ByteArray := prog_5_method_6_code
def qy_N_loadQueued : MethodName := ⟨"GossipNodes$Node", "loadQueued", "(LGossipNodes$Message;)V"⟩
def qw_N_loadQueued : List Cond := .code qy_N_loadQueued qc_N_loadQueued 5 none :: gTb
theorem qi_N_loadQueued : Cond.code qy_N_loadQueued qc_N_loadQueued 5 none ∈ gTb := (gTb_2 (i := 38) (by rfl) rfl)
abbrev qc_N_mostToSend : ByteArray := prog_5_method_7_code
def qy_N_mostToSend : MethodName := ⟨"GossipNodes$Node", "mostToSend", "(I)I"⟩
def qw_N_mostToSend : List Cond := .code qy_N_mostToSend qc_N_mostToSend 5 (some .int) :: gTb
theorem qi_N_mostToSend : Cond.code qy_N_mostToSend qc_N_mostToSend 5 (some .int) ∈ gTb := (gTb_2 (i := 42) (by rfl) rfl)
abbrev qc_G_crash : ByteArray := prog_1_method_3_code
def qy_G_crash : MethodName := ⟨"GossipNodes", "crash", "(I)Z"⟩
def qw_G_crash : List Cond := .code qy_G_crash qc_G_crash 2 (some .boolean) :: gTb
theorem qi_G_crash : Cond.code qy_G_crash qc_G_crash 2 (some .boolean) ∈ gTb := (gTb_2 (i := 46) (by rfl) rfl)
abbrev qc_G_isRunning : ByteArray := prog_1_method_17_code
def qy_G_isRunning : MethodName := ⟨"GossipNodes", "isRunning", "(I)Z"⟩
def qw_G_isRunning : List Cond := .code qy_G_isRunning qc_G_isRunning 2 (some .boolean) :: gTb
theorem qi_G_isRunning : Cond.code qy_G_isRunning qc_G_isRunning 2 (some .boolean) ∈ gTb := (gTb_2 (i := 50) (by rfl) rfl)
abbrev qc_G_leave : ByteArray := prog_1_method_4_code
def qy_G_leave : MethodName := ⟨"GossipNodes", "leave", "(I)Z"⟩
def qw_G_leave : List Cond := .code qy_G_leave qc_G_leave 2 (some .boolean) :: gTb
theorem qi_G_leave : Cond.code qy_G_leave qc_G_leave 2 (some .boolean) ∈ gTb := (gTb_2 (i := 54) (by rfl) rfl)
abbrev qc_N_sayFarewell : ByteArray := prog_5_method_3_code
def qy_N_sayFarewell : MethodName := ⟨"GossipNodes$Node", "sayFarewell", "(I)V"⟩
def qw_N_sayFarewell : List Cond := .code qy_N_sayFarewell qc_N_sayFarewell 3 none :: gTb
theorem qi_N_sayFarewell : Cond.code qy_N_sayFarewell qc_N_sayFarewell 3 none ∈ gTb := (gTb_2 (i := 58) (by rfl) rfl)
abbrev qc_G_cut : ByteArray := prog_1_method_5_code
def qy_G_cut : MethodName := ⟨"GossipNodes", "cut", "(IIZ)Z"⟩
def qw_G_cut : List Cond := .code qy_G_cut qc_G_cut 4 (some .boolean) :: gTb
theorem qi_G_cut : Cond.code qy_G_cut qc_G_cut 4 (some .boolean) ∈ gTb := (gTb_2 (i := 63) (by rfl) rfl)
abbrev qc_G_areCut : ByteArray := prog_1_method_18_code
def qy_G_areCut : MethodName := ⟨"GossipNodes", "areCut", "(II)Z"⟩
def qw_G_areCut : List Cond := .code qy_G_areCut qc_G_areCut 3 (some .boolean) :: gTb
theorem qi_G_areCut : Cond.code qy_G_areCut qc_G_areCut 3 (some .boolean) ∈ gTb := (gTb_2 (i := 67) (by rfl) rfl)
abbrev qc_G_drop : ByteArray := prog_1_method_6_code
def qy_G_drop : MethodName := ⟨"GossipNodes", "drop", "(I)Z"⟩
def qw_G_drop : List Cond := .code qy_G_drop qc_G_drop 2 (some .boolean) :: gTb
theorem qi_G_drop : Cond.code qy_G_drop qc_G_drop 2 (some .boolean) ∈ gTb := (gTb_2 (i := 71) (by rfl) rfl)
abbrev qc_F_lose : ByteArray := prog_3_method_3_code
def qy_F_lose : MethodName := ⟨"GossipNodes$Flight", "lose", "(I)Z"⟩
def qw_F_lose : List Cond := .code qy_F_lose qc_F_lose 4 (some .boolean) :: gTb
theorem qi_F_lose : Cond.code qy_F_lose qc_F_lose 4 (some .boolean) ∈ gTb := (gTb_2 (i := 75) (by rfl) rfl)
abbrev qc_G_swap : ByteArray := prog_1_method_7_code
def qy_G_swap : MethodName := ⟨"GossipNodes", "swap", "(I)Z"⟩
def qw_G_swap : List Cond := .code qy_G_swap qc_G_swap 2 (some .boolean) :: gTb
theorem qi_G_swap : Cond.code qy_G_swap qc_G_swap 2 (some .boolean) ∈ gTb := (gTb_2 (i := 79) (by rfl) rfl)
abbrev qc_F_overtake : ByteArray := prog_3_method_4_code
def qy_F_overtake : MethodName := ⟨"GossipNodes$Flight", "overtake", "(I)Z"⟩
def qw_F_overtake : List Cond := .code qy_F_overtake qc_F_overtake 3 (some .boolean) :: gTb
theorem qi_F_overtake : Cond.code qy_F_overtake qc_F_overtake 3 (some .boolean) ∈ gTb := (gTb_2 (i := 83) (by rfl) rfl)
abbrev qc_G_ticks : ByteArray := prog_1_method_8_code
def qy_G_ticks : MethodName := ⟨"GossipNodes", "ticks", "(I)I"⟩
def qw_G_ticks : List Cond := .code qy_G_ticks qc_G_ticks 5 (some .int) :: gTb
theorem qi_G_ticks : Cond.code qy_G_ticks qc_G_ticks 5 (some .int) ∈ gTb := (gTb_2 (i := 87) (by rfl) rfl)
abbrev qc_G_deliverAll : ByteArray := prog_1_method_19_code
def qy_G_deliverAll : MethodName := ⟨"GossipNodes", "deliverAll", "()I"⟩
def qw_G_deliverAll : List Cond := .code qy_G_deliverAll qc_G_deliverAll 6 (some .int) :: gTb
theorem qi_G_deliverAll : Cond.code qy_G_deliverAll qc_G_deliverAll 6 (some .int) ∈ gTb := (gTb_2 (i := 91) (by rfl) rfl)
abbrev qc_F_land : ByteArray := prog_3_method_5_code
def qy_F_land : MethodName := ⟨"GossipNodes$Flight", "land", "()I"⟩
def qw_F_land : List Cond := .code qy_F_land qc_F_land 3 (some .int) :: gTb
theorem qi_F_land : Cond.code qy_F_land qc_F_land 3 (some .int) ∈ gTb := (gTb_2 (i := 95) (by rfl) rfl)
abbrev qc_N_receive : ByteArray := prog_5_method_8_code
def qy_N_receive : MethodName := ⟨"GossipNodes$Node", "receive", "(LGossipNodes$Message;I)V"⟩
def qw_N_receive : List Cond := .code qy_N_receive qc_N_receive 5 none :: gTb
theorem qi_N_receive : Cond.code qy_N_receive qc_N_receive 5 none ∈ gTb := (gTb_2 (i := 99) (by rfl) rfl)
abbrev qc_N_learn : ByteArray := prog_5_method_9_code
def qy_N_learn : MethodName := ⟨"GossipNodes$Node", "learn", "(IIIII)V"⟩
def qw_N_learn : List Cond := .code qy_N_learn qc_N_learn 7 none :: gTb
theorem qi_N_learn : Cond.code qy_N_learn qc_N_learn 7 none ∈ gTb := (gTb_2 (i := 103) (by rfl) rfl)
abbrev qc_N_refute : ByteArray := prog_5_method_10_code
def qy_N_refute : MethodName := ⟨"GossipNodes$Node", "refute", "(II)V"⟩
def qw_N_refute : List Cond := .code qy_N_refute qc_N_refute 4 none :: gTb
theorem qi_N_refute : Cond.code qy_N_refute qc_N_refute 4 none ∈ gTb := (gTb_2 (i := 107) (by rfl) rfl)
abbrev qc_N_raiseScore : ByteArray := prog_5_method_11_code
def qy_N_raiseScore : MethodName := ⟨"GossipNodes$Node", "raiseScore", "(I)V"⟩
def qw_N_raiseScore : List Cond := .code qy_N_raiseScore qc_N_raiseScore 2 none :: gTb
theorem qi_N_raiseScore : Cond.code qy_N_raiseScore qc_N_raiseScore 2 none ∈ gTb := (gTb_2 (i := 111) (by rfl) rfl)
abbrev qc_E_isBelow : ByteArray := prog_2_method_6_code
def qy_E_isBelow : MethodName := ⟨"GossipNodes$Entry", "isBelow", "(II)Z"⟩
def qw_E_isBelow : List Cond := .code qy_E_isBelow qc_E_isBelow 3 (some .boolean) :: gTb
theorem qi_E_isBelow : Cond.code qy_E_isBelow qc_E_isBelow 3 (some .boolean) ∈ gTb := (gTb_2 (i := 117) (by rfl) rfl)
abbrev qc_E_becomeSuspect : ByteArray := prog_2_method_4_code
def qy_E_becomeSuspect : MethodName := ⟨"GossipNodes$Entry", "becomeSuspect", "(III)V"⟩
def qw_E_becomeSuspect : List Cond := .code qy_E_becomeSuspect qc_E_becomeSuspect 4 none :: gTb
theorem qi_E_becomeSuspect : Cond.code qy_E_becomeSuspect qc_E_becomeSuspect 4 none ∈ gTb := (gTb_2 (i := 121) (by rfl) rfl)
abbrev qc_E_isSameSuspicion : ByteArray := prog_2_method_7_code
def qy_E_isSameSuspicion : MethodName := ⟨"GossipNodes$Entry", "isSameSuspicion", "(II)Z"⟩
def qw_E_isSameSuspicion : List Cond := .code qy_E_isSameSuspicion qc_E_isSameSuspicion 3 (some .boolean) :: gTb
theorem qi_E_isSameSuspicion : Cond.code qy_E_isSameSuspicion qc_E_isSameSuspicion 3 (some .boolean) ∈ gTb := (gTb_2 (i := 126) (by rfl) rfl)
abbrev qc_N_takeAck : ByteArray := prog_5_method_13_code
def qy_N_takeAck : MethodName := ⟨"GossipNodes$Node", "takeAck", "(LGossipNodes$Message;)V"⟩
def qw_N_takeAck : List Cond := .code qy_N_takeAck qc_N_takeAck 3 none :: gTb
theorem qi_N_takeAck : Cond.code qy_N_takeAck qc_N_takeAck 3 none ∈ gTb := (gTb_2 (i := 130) (by rfl) rfl)
abbrev qc_N_isOfProbe : ByteArray := prog_5_method_12_code
def qy_N_isOfProbe : MethodName := ⟨"GossipNodes$Node", "isOfProbe", "(LGossipNodes$Message;)Z"⟩
def qw_N_isOfProbe : List Cond := .code qy_N_isOfProbe qc_N_isOfProbe 2 (some .boolean) :: gTb
theorem qi_N_isOfProbe : Cond.code qy_N_isOfProbe qc_N_isOfProbe 2 (some .boolean) ∈ gTb := (gTb_2 (i := 134) (by rfl) rfl)
abbrev qc_R_isFor : ByteArray := prog_6_method_2_code
def qy_R_isFor : MethodName := ⟨"GossipNodes$Relay", "isFor", "(LGossipNodes$Message;)Z"⟩
def qw_R_isFor : List Cond := .code qy_R_isFor qc_R_isFor 2 (some .boolean) :: gTb
theorem qi_R_isFor : Cond.code qy_R_isFor qc_R_isFor 2 (some .boolean) ∈ gTb := (gTb_2 (i := 138) (by rfl) rfl)
abbrev qc_N_endRelay : ByteArray := prog_5_method_15_code
def qy_N_endRelay : MethodName := ⟨"GossipNodes$Node", "endRelay", "(I)V"⟩
def qw_N_endRelay : List Cond := .code qy_N_endRelay qc_N_endRelay 4 none :: gTb
theorem qi_N_endRelay : Cond.code qy_N_endRelay qc_N_endRelay 4 none ∈ gTb := (gTb_2 (i := 142) (by rfl) rfl)
abbrev qc_N_takeAsk : ByteArray := prog_5_method_14_code
def qy_N_takeAsk : MethodName := ⟨"GossipNodes$Node", "takeAsk", "(LGossipNodes$Message;)V"⟩
def qw_N_takeAsk : List Cond := .code qy_N_takeAsk qc_N_takeAsk 3 none :: gTb
theorem qi_N_takeAsk : Cond.code qy_N_takeAsk qc_N_takeAsk 3 none ∈ gTb := (gTb_2 (i := 146) (by rfl) rfl)
abbrev qc_N_timer : ByteArray := prog_5_method_16_code
def qy_N_timer : MethodName := ⟨"GossipNodes$Node", "timer", "(I)V"⟩
def qw_N_timer : List Cond := .code qy_N_timer qc_N_timer 2 none :: gTb
theorem qi_N_timer : Cond.code qy_N_timer qc_N_timer 2 none ∈ gTb := (gTb_2 (i := 150) (by rfl) rfl)
abbrev qc_N_ageRelays : ByteArray := prog_5_method_17_code
def qy_N_ageRelays : MethodName := ⟨"GossipNodes$Node", "ageRelays", "()V"⟩
def qw_N_ageRelays : List Cond := .code qy_N_ageRelays qc_N_ageRelays 5 none :: gTb
theorem qi_N_ageRelays : Cond.code qy_N_ageRelays qc_N_ageRelays 5 none ∈ gTb := (gTb_2 (i := 154) (by rfl) rfl)
abbrev qc_N_buryOverdue : ByteArray := prog_5_method_18_code
def qy_N_buryOverdue : MethodName := ⟨"GossipNodes$Node", "buryOverdue", "(I)V"⟩
def qw_N_buryOverdue : List Cond := .code qy_N_buryOverdue qc_N_buryOverdue 5 none :: gTb
theorem qi_N_buryOverdue : Cond.code qy_N_buryOverdue qc_N_buryOverdue 5 none ∈ gTb := (gTb_2 (i := 158) (by rfl) rfl)
abbrev qc_J_bitCount : ByteArray := prog_9_method_49_code
def qy_J_bitCount : MethodName := ⟨"java/lang/Integer", "bitCount", "(I)I"⟩
def qw_J_bitCount : List Cond := .code qy_J_bitCount qc_J_bitCount 1 (some .int) :: gTb
theorem qi_J_bitCount : Cond.code qy_J_bitCount qc_J_bitCount 1 (some .int) ∈ gTb := (gTb_2 (i := 161) (by rfl) rfl)
abbrev qc_N_restOrProbe : ByteArray := prog_5_method_19_code
def qy_N_restOrProbe : MethodName := ⟨"GossipNodes$Node", "restOrProbe", "()V"⟩
def qw_N_restOrProbe : List Cond := .code qy_N_restOrProbe qc_N_restOrProbe 2 none :: gTb
theorem qi_N_restOrProbe : Cond.code qy_N_restOrProbe qc_N_restOrProbe 2 none ∈ gTb := (gTb_2 (i := 168) (by rfl) rfl)
abbrev qc_N_nextBehind : ByteArray := prog_5_method_20_code
def qy_N_nextBehind : MethodName := ⟨"GossipNodes$Node", "nextBehind", "(II)I"⟩
def qw_N_nextBehind : List Cond := .code qy_N_nextBehind qc_N_nextBehind 5 (some .int) :: gTb
theorem qi_N_nextBehind : Cond.code qy_N_nextBehind qc_N_nextBehind 5 (some .int) ∈ gTb := (gTb_2 (i := 172) (by rfl) rfl)
abbrev qc_N_goOnProbing : ByteArray := prog_5_method_21_code
def qy_N_goOnProbing : MethodName := ⟨"GossipNodes$Node", "goOnProbing", "(I)V"⟩
def qw_N_goOnProbing : List Cond := .code qy_N_goOnProbing qc_N_goOnProbing 2 none :: gTb
theorem qi_N_goOnProbing : Cond.code qy_N_goOnProbing qc_N_goOnProbing 2 none ∈ gTb := (gTb_2 (i := 176) (by rfl) rfl)
abbrev qc_N_askOthers : ByteArray := prog_5_method_22_code
def qy_N_askOthers : MethodName := ⟨"GossipNodes$Node", "askOthers", "()V"⟩
def qw_N_askOthers : List Cond := .code qy_N_askOthers qc_N_askOthers 3 none :: gTb
theorem qi_N_askOthers : Cond.code qy_N_askOthers qc_N_askOthers 3 none ∈ gTb := (gTb_2 (i := 180) (by rfl) rfl)
abbrev qc_N_endProbe : ByteArray := prog_5_method_23_code
def qy_N_endProbe : MethodName := ⟨"GossipNodes$Node", "endProbe", "(I)V"⟩
def qw_N_endProbe : List Cond := .code qy_N_endProbe qc_N_endProbe 3 none :: gTb
theorem qi_N_endProbe : Cond.code qy_N_endProbe qc_N_endProbe 3 none ∈ gTb := (gTb_2 (i := 184) (by rfl) rfl)
abbrev qc_N_syncWithNext : ByteArray := prog_5_method_24_code
def qy_N_syncWithNext : MethodName := ⟨"GossipNodes$Node", "syncWithNext", "()V"⟩
def qw_N_syncWithNext : List Cond := .code qy_N_syncWithNext qc_N_syncWithNext 2 none :: gTb
theorem qi_N_syncWithNext : Cond.code qy_N_syncWithNext qc_N_syncWithNext 2 none ∈ gTb := (gTb_2 (i := 189) (by rfl) rfl)
abbrev qc_G_now : ByteArray := prog_1_method_9_code
def qy_G_now : MethodName := ⟨"GossipNodes", "now", "()I"⟩
def qw_G_now : List Cond := .code qy_G_now qc_G_now 1 (some .int) :: gTb
theorem qi_G_now : Cond.code qy_G_now qc_G_now 1 (some .int) ∈ gTb := (gTb_2 (i := 193) (by rfl) rfl)
abbrev qc_G_flight : ByteArray := prog_1_method_10_code
def qy_G_flight : MethodName := ⟨"GossipNodes", "flight", "()I"⟩
def qw_G_flight : List Cond := .code qy_G_flight qc_G_flight 1 (some .int) :: gTb
theorem qi_G_flight : Cond.code qy_G_flight qc_G_flight 1 (some .int) ∈ gTb := (gTb_2 (i := 197) (by rfl) rfl)
abbrev qc_G_message : ByteArray := prog_1_method_11_code
def qy_G_message : MethodName := ⟨"GossipNodes", "message", "(II)I"⟩
def qw_G_message : List Cond := .code qy_G_message qc_G_message 3 (some .int) :: gTb
theorem qi_G_message : Cond.code qy_G_message qc_G_message 3 (some .int) ∈ gTb := (gTb_2 (i := 201) (by rfl) rfl)
abbrev qc_M_tell : ByteArray := prog_4_method_5_code
def qy_M_tell : MethodName := ⟨"GossipNodes$Message", "tell", "(I)I"⟩
def qw_M_tell : List Cond := .code qy_M_tell qc_M_tell 2 (some .int) :: gTb
theorem qi_M_tell : Cond.code qy_M_tell qc_M_tell 2 (some .int) ∈ gTb := (gTb_2 (i := 205) (by rfl) rfl)
abbrev qc_M_tellNews : ByteArray := prog_4_method_6_code
def qy_M_tellNews : MethodName := ⟨"GossipNodes$Message", "tellNews", "(I)I"⟩
def qw_M_tellNews : List Cond := .code qy_M_tellNews qc_M_tellNews 2 (some .int) :: gTb
theorem qi_M_tellNews : Cond.code qy_M_tellNews qc_M_tellNews 2 (some .int) ∈ gTb := (gTb_2 (i := 209) (by rfl) rfl)
abbrev qc_G_view : ByteArray := prog_1_method_12_code
def qy_G_view : MethodName := ⟨"GossipNodes", "view", "(III)I"⟩
def qw_G_view : List Cond := .code qy_G_view qc_G_view 4 (some .int) :: gTb
theorem qi_G_view : Cond.code qy_G_view qc_G_view 4 (some .int) ∈ gTb := (gTb_2 (i := 213) (by rfl) rfl)
abbrev qc_E_tell : ByteArray := prog_2_method_8_code
def qy_E_tell : MethodName := ⟨"GossipNodes$Entry", "tell", "(I)I"⟩
def qw_E_tell : List Cond := .code qy_E_tell qc_E_tell 2 (some .int) :: gTb
theorem qi_E_tell : Cond.code qy_E_tell qc_E_tell 2 (some .int) ∈ gTb := (gTb_2 (i := 217) (by rfl) rfl)
abbrev qc_G_node : ByteArray := prog_1_method_13_code
def qy_G_node : MethodName := ⟨"GossipNodes", "node", "(II)I"⟩
def qw_G_node : List Cond := .code qy_G_node qc_G_node 3 (some .int) :: gTb
theorem qi_G_node : Cond.code qy_G_node qc_G_node 3 (some .int) ∈ gTb := (gTb_2 (i := 222) (by rfl) rfl)
abbrev qc_N_tell : ByteArray := prog_5_method_25_code
def qy_N_tell : MethodName := ⟨"GossipNodes$Node", "tell", "(I)I"⟩
def qw_N_tell : List Cond := .code qy_N_tell qc_N_tell 2 (some .int) :: gTb
theorem qi_N_tell : Cond.code qy_N_tell qc_N_tell 2 (some .int) ∈ gTb := (gTb_2 (i := 226) (by rfl) rfl)
abbrev qc_N_countQueued : ByteArray := prog_5_method_26_code
def qy_N_countQueued : MethodName := ⟨"GossipNodes$Node", "countQueued", "()I"⟩
def qw_N_countQueued : List Cond := .code qy_N_countQueued qc_N_countQueued 3 (some .int) :: gTb
theorem qi_N_countQueued : Cond.code qy_N_countQueued qc_N_countQueued 3 (some .int) ∈ gTb := (gTb_2 (i := 230) (by rfl) rfl)
abbrev qc_G_queued : ByteArray := prog_1_method_14_code
def qy_G_queued : MethodName := ⟨"GossipNodes", "queued", "(II)I"⟩
def qw_G_queued : List Cond := .code qy_G_queued qc_G_queued 3 (some .int) :: gTb
theorem qi_G_queued : Cond.code qy_G_queued qc_G_queued 3 (some .int) ∈ gTb := (gTb_2 (i := 234) (by rfl) rfl)
abbrev qc_G_agreed : ByteArray := prog_1_method_15_code
def qy_G_agreed : MethodName := ⟨"GossipNodes", "agreed", "()Z"⟩
def qw_G_agreed : List Cond := .code qy_G_agreed qc_G_agreed 2 (some .boolean) :: gTb
theorem qi_G_agreed : Cond.code qy_G_agreed qc_G_agreed 2 (some .boolean) ∈ gTb := (gTb_2 (i := 238) (by rfl) rfl)
abbrev qc_G_seesJustTheRunning : ByteArray := prog_1_method_20_code
def qy_G_seesJustTheRunning : MethodName := ⟨"GossipNodes", "seesJustTheRunning", "(LGossipNodes$Node;)Z"⟩
def qw_G_seesJustTheRunning : List Cond := .code qy_G_seesJustTheRunning qc_G_seesJustTheRunning 4 (some .boolean) :: gTb
theorem qi_G_seesJustTheRunning : Cond.code qy_G_seesJustTheRunning qc_G_seesJustTheRunning 4 (some .boolean) ∈ gTb := (gTb_3 (i := 2) (by rfl) rfl)
abbrev qc_L_cell : ByteArray := method_2_code
def qy_L_cell : MethodName := ⟨"GossipNodesLaw", "cell", "([II)I"⟩
def qw_L_cell : List Cond := .code qy_L_cell qc_L_cell 2 (some .int) :: gTb
theorem qi_L_cell : Cond.code qy_L_cell qc_L_cell 2 (some .int) ∈ gTb := (gTb_3 (i := 5) (by rfl) rfl)
abbrev qc_Z_init : ByteArray := prog_8_method_1_code
def qy_Z_init : MethodName := ⟨"GossipNodesModel", "<init>", "(I)V"⟩
def qw_Z_init : List Cond := .code qy_Z_init qc_Z_init 2 none :: gTb
theorem qi_Z_init : Cond.code qy_Z_init qc_Z_init 2 none ∈ gTb := (gTb_3 (i := 10) (by rfl) rfl)
abbrev qc_Z_start : ByteArray := prog_8_method_11_code
def qy_Z_start : MethodName := ⟨"GossipNodesModel", "start", "(II)Z"⟩
def qw_Z_start : List Cond := .code qy_Z_start qc_Z_start 4 (some .boolean) :: gTb
theorem qi_Z_start : Cond.code qy_Z_start qc_Z_start 4 (some .boolean) ∈ gTb := (gTb_3 (i := 101) (by rfl) rfl)
abbrev qc_Z_isNode : ByteArray := prog_8_method_2_code
def qy_Z_isNode : MethodName := ⟨"GossipNodesModel", "isNode", "(I)Z"⟩
def qw_Z_isNode : List Cond := .code qy_Z_isNode qc_Z_isNode 2 (some .boolean) :: gTb
theorem qi_Z_isNode : Cond.code qy_Z_isNode qc_Z_isNode 2 (some .boolean) ∈ gTb := (gTb_3 (i := 105) (by rfl) rfl)
abbrev qc_Z_enter : ByteArray := prog_8_method_10_code
def qy_Z_enter : MethodName := ⟨"GossipNodesModel", "enter", "(IIIII)V"⟩
def qw_Z_enter : List Cond := .code qy_Z_enter qc_Z_enter 7 none :: gTb
theorem qi_Z_enter : Cond.code qy_Z_enter qc_Z_enter 7 none ∈ gTb := (gTb_3 (i := 109) (by rfl) rfl)
abbrev qc_Z_announce : ByteArray := prog_8_method_9_code
def qy_Z_announce : MethodName := ⟨"GossipNodesModel", "announce", "(IIII)V"⟩
def qw_Z_announce : List Cond := .code qy_Z_announce qc_Z_announce 5 none :: gTb
theorem qi_Z_announce : Cond.code qy_Z_announce qc_Z_announce 5 none ∈ gTb := (gTb_3 (i := 113) (by rfl) rfl)
abbrev qc_Z_send : ByteArray := prog_8_method_8_code
def qy_Z_send : MethodName := ⟨"GossipNodesModel", "send", "(IIIIII)V"⟩
def qw_Z_send : List Cond := .code qy_Z_send qc_Z_send 8 none :: gTb
theorem qi_Z_send : Cond.code qy_Z_send qc_Z_send 8 none ∈ gTb := (gTb_3 (i := 117) (by rfl) rfl)
abbrev qc_Z_addQueued : ByteArray := prog_8_method_6_code
def qy_Z_addQueued : MethodName := ⟨"GossipNodesModel", "addQueued", "(I)V"⟩
def qw_Z_addQueued : List Cond := .code qy_Z_addQueued qc_Z_addQueued 4 none :: gTb
theorem qi_Z_addQueued : Cond.code qy_Z_addQueued qc_Z_addQueued 4 none ∈ gTb := (gTb_3 (i := 121) (by rfl) rfl)
abbrev qc_Z_mostQueued : ByteArray := prog_8_method_4_code
def qy_Z_mostQueued : MethodName := ⟨"GossipNodesModel", "mostQueued", "(I)I"⟩
def qw_Z_mostQueued : List Cond := .code qy_Z_mostQueued qc_Z_mostQueued 4 (some .int) :: gTb
theorem qi_Z_mostQueued : Cond.code qy_Z_mostQueued qc_Z_mostQueued 4 (some .int) ∈ gTb := (gTb_3 (i := 125) (by rfl) rfl)
abbrev qc_Z_addNews : ByteArray := prog_8_method_5_code
def qy_Z_addNews : MethodName := ⟨"GossipNodesModel", "addNews", "(III)V"⟩
def qw_Z_addNews : List Cond := .code qy_Z_addNews qc_Z_addNews 5 none :: gTb
theorem qi_Z_addNews : Cond.code qy_Z_addNews qc_Z_addNews 5 none ∈ gTb := (gTb_3 (i := 129) (by rfl) rfl)
abbrev qc_Z_addTable : ByteArray := prog_8_method_7_code
def qy_Z_addTable : MethodName := ⟨"GossipNodesModel", "addTable", "(I)V"⟩
def qw_Z_addTable : List Cond := .code qy_Z_addTable qc_Z_addTable 3 none :: gTb
theorem qi_Z_addTable : Cond.code qy_Z_addTable qc_Z_addTable 3 none ∈ gTb := (gTb_3 (i := 133) (by rfl) rfl)
abbrev qc_Z_crash : ByteArray := prog_8_method_12_code
def qy_Z_crash : MethodName := ⟨"GossipNodesModel", "crash", "(I)Z"⟩
def qw_Z_crash : List Cond := .code qy_Z_crash qc_Z_crash 2 (some .boolean) :: gTb
theorem qi_Z_crash : Cond.code qy_Z_crash qc_Z_crash 2 (some .boolean) ∈ gTb := (gTb_3 (i := 137) (by rfl) rfl)
abbrev qc_Z_isRunning : ByteArray := prog_8_method_3_code
def qy_Z_isRunning : MethodName := ⟨"GossipNodesModel", "isRunning", "(I)Z"⟩
def qw_Z_isRunning : List Cond := .code qy_Z_isRunning qc_Z_isRunning 2 (some .boolean) :: gTb
theorem qi_Z_isRunning : Cond.code qy_Z_isRunning qc_Z_isRunning 2 (some .boolean) ∈ gTb := (gTb_3 (i := 141) (by rfl) rfl)
abbrev qc_Z_leave : ByteArray := prog_8_method_13_code
def qy_Z_leave : MethodName := ⟨"GossipNodesModel", "leave", "(I)Z"⟩
def qw_Z_leave : List Cond := .code qy_Z_leave qc_Z_leave 3 (some .boolean) :: gTb
theorem qi_Z_leave : Cond.code qy_Z_leave qc_Z_leave 3 (some .boolean) ∈ gTb := (gTb_3 (i := 145) (by rfl) rfl)
abbrev qc_Z_cut : ByteArray := prog_8_method_14_code
def qy_Z_cut : MethodName := ⟨"GossipNodesModel", "cut", "(IIZ)Z"⟩
def qw_Z_cut : List Cond := .code qy_Z_cut qc_Z_cut 4 (some .boolean) :: gTb
theorem qi_Z_cut : Cond.code qy_Z_cut qc_Z_cut 4 (some .boolean) ∈ gTb := (gTb_3 (i := 149) (by rfl) rfl)
abbrev qc_Z_drop : ByteArray := prog_8_method_16_code
def qy_Z_drop : MethodName := ⟨"GossipNodesModel", "drop", "(I)Z"⟩
def qw_Z_drop : List Cond := .code qy_Z_drop qc_Z_drop 2 (some .boolean) :: gTb
theorem qi_Z_drop : Cond.code qy_Z_drop qc_Z_drop 2 (some .boolean) ∈ gTb := (gTb_3 (i := 153) (by rfl) rfl)
abbrev qc_Z_remove : ByteArray := prog_8_method_15_code
def qy_Z_remove : MethodName := ⟨"GossipNodesModel", "remove", "(I)V"⟩
def qw_Z_remove : List Cond := .code qy_Z_remove qc_Z_remove 3 none :: gTb
theorem qi_Z_remove : Cond.code qy_Z_remove qc_Z_remove 3 none ∈ gTb := (gTb_3 (i := 157) (by rfl) rfl)
abbrev qc_Z_swap : ByteArray := prog_8_method_17_code
def qy_Z_swap : MethodName := ⟨"GossipNodesModel", "swap", "(I)Z"⟩
def qw_Z_swap : List Cond := .code qy_Z_swap qc_Z_swap 4 (some .boolean) :: gTb
theorem qi_Z_swap : Cond.code qy_Z_swap qc_Z_swap 4 (some .boolean) ∈ gTb := (gTb_3 (i := 161) (by rfl) rfl)
abbrev qc_Z_ticks : ByteArray := prog_8_method_33_code
def qy_Z_ticks : MethodName := ⟨"GossipNodesModel", "ticks", "(I)I"⟩
def qw_Z_ticks : List Cond := .code qy_Z_ticks qc_Z_ticks 6 (some .int) :: gTb
theorem qi_Z_ticks : Cond.code qy_Z_ticks qc_Z_ticks 6 (some .int) ∈ gTb := (gTb_3 (i := 165) (by rfl) rfl)
abbrev qc_Z_arrive : ByteArray := prog_8_method_23_code
def qy_Z_arrive : MethodName := ⟨"GossipNodesModel", "arrive", "()Z"⟩
def qw_Z_arrive : List Cond := .code qy_Z_arrive qc_Z_arrive 9 (some .boolean) :: gTb
theorem qi_Z_arrive : Cond.code qy_Z_arrive qc_Z_arrive 9 (some .boolean) ∈ gTb := (gTb_3 (i := 169) (by rfl) rfl)
abbrev qc_Z_learn : ByteArray := prog_8_method_18_code
def qy_Z_learn : MethodName := ⟨"GossipNodesModel", "learn", "(IIIII)V"⟩
def qw_Z_learn : List Cond := .code qy_Z_learn qc_Z_learn 9 none :: gTb
theorem qi_Z_learn : Cond.code qy_Z_learn qc_Z_learn 9 none ∈ gTb := (gTb_3 (i := 173) (by rfl) rfl)
abbrev qc_Z_acknowledged : ByteArray := prog_8_method_21_code
def qy_Z_acknowledged : MethodName := ⟨"GossipNodesModel", "acknowledged", "(IIII)V"⟩
def qw_Z_acknowledged : List Cond := .code qy_Z_acknowledged qc_Z_acknowledged 6 none :: gTb
theorem qi_Z_acknowledged : Cond.code qy_Z_acknowledged qc_Z_acknowledged 6 none ∈ gTb := (gTb_3 (i := 177) (by rfl) rfl)
abbrev qc_Z_relayOf : ByteArray := prog_8_method_20_code
def qy_Z_relayOf : MethodName := ⟨"GossipNodesModel", "relayOf", "(IIII)I"⟩
def qw_Z_relayOf : List Cond := .code qy_Z_relayOf qc_Z_relayOf 8 (some .int) :: gTb
theorem qi_Z_relayOf : Cond.code qy_Z_relayOf qc_Z_relayOf 8 (some .int) ∈ gTb := (gTb_3 (i := 181) (by rfl) rfl)
abbrev qc_Z_removeRelay : ByteArray := prog_8_method_19_code
def qy_Z_removeRelay : MethodName := ⟨"GossipNodesModel", "removeRelay", "(II)V"⟩
def qw_Z_removeRelay : List Cond := .code qy_Z_removeRelay qc_Z_removeRelay 4 none :: gTb
theorem qi_Z_removeRelay : Cond.code qy_Z_removeRelay qc_Z_removeRelay 4 none ∈ gTb := (gTb_3 (i := 185) (by rfl) rfl)
abbrev qc_Z_help : ByteArray := prog_8_method_22_code
def qy_Z_help : MethodName := ⟨"GossipNodesModel", "help", "(IIII)V"⟩
def qw_Z_help : List Cond := .code qy_Z_help qc_Z_help 6 none :: gTb
theorem qi_Z_help : Cond.code qy_Z_help qc_Z_help 6 none ∈ gTb := (gTb_3 (i := 189) (by rfl) rfl)
abbrev qc_Z_time : ByteArray := prog_8_method_32_code
def qy_Z_time : MethodName := ⟨"GossipNodesModel", "time", "(I)V"⟩
def qw_Z_time : List Cond := .code qy_Z_time qc_Z_time 3 none :: gTb
theorem qi_Z_time : Cond.code qy_Z_time qc_Z_time 3 none ∈ gTb := (gTb_3 (i := 193) (by rfl) rfl)
abbrev qc_Z_ageRelays : ByteArray := prog_8_method_24_code
def qy_Z_ageRelays : MethodName := ⟨"GossipNodesModel", "ageRelays", "(I)V"⟩
def qw_Z_ageRelays : List Cond := .code qy_Z_ageRelays qc_Z_ageRelays 5 none :: gTb
theorem qi_Z_ageRelays : Cond.code qy_Z_ageRelays qc_Z_ageRelays 5 none ∈ gTb := (gTb_3 (i := 197) (by rfl) rfl)
abbrev qc_Z_expire : ByteArray := prog_8_method_26_code
def qy_Z_expire : MethodName := ⟨"GossipNodesModel", "expire", "(I)V"⟩
def qw_Z_expire : List Cond := .code qy_Z_expire qc_Z_expire 5 none :: gTb
theorem qi_Z_expire : Cond.code qy_Z_expire qc_Z_expire 5 none ∈ gTb := (gTb_3 (i := 201) (by rfl) rfl)
abbrev qc_Z_count : ByteArray := prog_8_method_25_code
def qy_Z_count : MethodName := ⟨"GossipNodesModel", "count", "(I)I"⟩
def qw_Z_count : List Cond := .code qy_Z_count qc_Z_count 3 (some .int) :: gTb
theorem qi_Z_count : Cond.code qy_Z_count qc_Z_count 3 (some .int) ∈ gTb := (gTb_3 (i := 204) (by rfl) rfl)
abbrev qc_Z_probe : ByteArray := prog_8_method_31_code
def qy_Z_probe : MethodName := ⟨"GossipNodesModel", "probe", "(I)V"⟩
def qw_Z_probe : List Cond := .code qy_Z_probe qc_Z_probe 2 none :: gTb
theorem qi_Z_probe : Cond.code qy_Z_probe qc_Z_probe 2 none ∈ gTb := (gTb_3 (i := 208) (by rfl) rfl)
abbrev qc_Z_begin : ByteArray := prog_8_method_28_code
def qy_Z_begin : MethodName := ⟨"GossipNodesModel", "begin", "(I)V"⟩
def qw_Z_begin : List Cond := .code qy_Z_begin qc_Z_begin 3 none :: gTb
theorem qi_Z_begin : Cond.code qy_Z_begin qc_Z_begin 3 none ∈ gTb := (gTb_3 (i := 212) (by rfl) rfl)
abbrev qc_Z_nextOf : ByteArray := prog_8_method_27_code
def qy_Z_nextOf : MethodName := ⟨"GossipNodesModel", "nextOf", "(IIIZ)I"⟩
def qw_Z_nextOf : List Cond := .code qy_Z_nextOf qc_Z_nextOf 8 (some .int) :: gTb
theorem qi_Z_nextOf : Cond.code qy_Z_nextOf qc_Z_nextOf 8 (some .int) ∈ gTb := (gTb_3 (i := 216) (by rfl) rfl)
abbrev qc_Z_askOthers : ByteArray := prog_8_method_29_code
def qy_Z_askOthers : MethodName := ⟨"GossipNodesModel", "askOthers", "(I)V"⟩
def qw_Z_askOthers : List Cond := .code qy_Z_askOthers qc_Z_askOthers 4 none :: gTb
theorem qi_Z_askOthers : Cond.code qy_Z_askOthers qc_Z_askOthers 4 none ∈ gTb := (gTb_3 (i := 220) (by rfl) rfl)
abbrev qc_Z_end : ByteArray := prog_8_method_30_code
def qy_Z_end : MethodName := ⟨"GossipNodesModel", "end", "(I)V"⟩
def qw_Z_end : List Cond := .code qy_Z_end qc_Z_end 5 none :: gTb
theorem qi_Z_end : Cond.code qy_Z_end qc_Z_end 5 none ∈ gTb := (gTb_3 (i := 224) (by rfl) rfl)
abbrev qc_Z_now : ByteArray := prog_8_method_34_code
def qy_Z_now : MethodName := ⟨"GossipNodesModel", "now", "()I"⟩
def qw_Z_now : List Cond := .code qy_Z_now qc_Z_now 1 (some .int) :: gTb
theorem qi_Z_now : Cond.code qy_Z_now qc_Z_now 1 (some .int) ∈ gTb := (gTb_3 (i := 228) (by rfl) rfl)
abbrev qc_Z_flight : ByteArray := prog_8_method_35_code
def qy_Z_flight : MethodName := ⟨"GossipNodesModel", "flight", "()I"⟩
def qw_Z_flight : List Cond := .code qy_Z_flight qc_Z_flight 1 (some .int) :: gTb
theorem qi_Z_flight : Cond.code qy_Z_flight qc_Z_flight 1 (some .int) ∈ gTb := (gTb_3 (i := 232) (by rfl) rfl)
abbrev qc_Z_message : ByteArray := prog_8_method_36_code
def qy_Z_message : MethodName := ⟨"GossipNodesModel", "message", "(II)I"⟩
def qw_Z_message : List Cond := .code qy_Z_message qc_Z_message 3 (some .int) :: gTb
theorem qi_Z_message : Cond.code qy_Z_message qc_Z_message 3 (some .int) ∈ gTb := (gTb_3 (i := 236) (by rfl) rfl)
abbrev qc_Z_view : ByteArray := prog_8_method_37_code
def qy_Z_view : MethodName := ⟨"GossipNodesModel", "view", "(III)I"⟩
def qw_Z_view : List Cond := .code qy_Z_view qc_Z_view 5 (some .int) :: gTb
theorem qi_Z_view : Cond.code qy_Z_view qc_Z_view 5 (some .int) ∈ gTb := (gTb_4 (i := 0) (by rfl) rfl)
abbrev qc_Z_node : ByteArray := prog_8_method_39_code
def qy_Z_node : MethodName := ⟨"GossipNodesModel", "node", "(II)I"⟩
def qw_Z_node : List Cond := .code qy_Z_node qc_Z_node 3 (some .int) :: gTb
theorem qi_Z_node : Cond.code qy_Z_node qc_Z_node 3 (some .int) ∈ gTb := (gTb_4 (i := 4) (by rfl) rfl)
abbrev qc_Z_newsOf : ByteArray := prog_8_method_38_code
def qy_Z_newsOf : MethodName := ⟨"GossipNodesModel", "newsOf", "(I)I"⟩
def qw_Z_newsOf : List Cond := .code qy_Z_newsOf qc_Z_newsOf 4 (some .int) :: gTb
theorem qi_Z_newsOf : Cond.code qy_Z_newsOf qc_Z_newsOf 4 (some .int) ∈ gTb := (gTb_4 (i := 8) (by rfl) rfl)
abbrev qc_Z_queued : ByteArray := prog_8_method_40_code
def qy_Z_queued : MethodName := ⟨"GossipNodesModel", "queued", "(II)I"⟩
def qw_Z_queued : List Cond := .code qy_Z_queued qc_Z_queued 3 (some .int) :: gTb
theorem qi_Z_queued : Cond.code qy_Z_queued qc_Z_queued 3 (some .int) ∈ gTb := (gTb_4 (i := 12) (by rfl) rfl)
abbrev qc_Z_agreed : ByteArray := prog_8_method_41_code
def qy_Z_agreed : MethodName := ⟨"GossipNodesModel", "agreed", "()Z"⟩
def qw_Z_agreed : List Cond := .code qy_Z_agreed qc_Z_agreed 5 (some .boolean) :: gTb
theorem qi_Z_agreed : Cond.code qy_Z_agreed qc_Z_agreed 5 (some .boolean) ∈ gTb := (gTb_4 (i := 16) (by rfl) rfl)
