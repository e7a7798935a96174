def gwT : List Cond := lw_tbl.filter goodWord
theorem gw_of {i : Nat} {w : Cond} (h : lw_tbl[i]? = some w) (hg : goodWord w = true) : w ∈ gwT := List.mem_filter.mpr ⟨List.mem_of_getElem? h, hg⟩
theorem gw_1 {i : Nat} {w : Cond} (h : tables_1_1[i]? = some w) (hg : goodWord w = true) : w ∈ gwT := by
  have h := List.mem_of_getElem? h
  exact List.mem_filter.mpr ⟨List.mem_append_right _ (List.mem_append_left _ h), hg⟩
theorem gw_2 {i : Nat} {w : Cond} (h : tables_1_2[i]? = some w) (hg : goodWord w = true) : w ∈ gwT := by
  have h := List.mem_of_getElem? h
  exact List.mem_filter.mpr ⟨List.mem_append_right _ (List.mem_append_right _ (List.mem_append_left _ h)), hg⟩
theorem gw_3 {i : Nat} {w : Cond} (h : tables_1_3[i]? = some w) (hg : goodWord w = true) : w ∈ gwT := by
  have h := List.mem_of_getElem? h
  exact List.mem_filter.mpr ⟨List.mem_append_right _ (List.mem_append_right _ (List.mem_append_right _ (List.mem_append_left _ h))), hg⟩
theorem gw_4 {i : Nat} {w : Cond} (h : tables_1_4[i]? = some w) (hg : goodWord w = true) : w ∈ gwT := by
  have h := List.mem_of_getElem? h
  exact List.mem_filter.mpr ⟨List.mem_append_right _ (List.mem_append_right _ (List.mem_append_right _ (List.mem_append_right _ (List.mem_append_left _ h)))), hg⟩
theorem gw_5 {i : Nat} {w : Cond} (h : tables_1_5[i]? = some w) (hg : goodWord w = true) : w ∈ gwT := by
  have h := List.mem_of_getElem? h
  exact List.mem_filter.mpr ⟨List.mem_append_right _ (List.mem_append_right _ (List.mem_append_right _ (List.mem_append_right _ (List.mem_append_right _ (List.mem_append_left _ h))))), hg⟩
theorem gw_6 {i : Nat} {w : Cond} (h : tables_1_6[i]? = some w) (hg : goodWord w = true) : w ∈ gwT := by
  have h := List.mem_of_getElem? h
  exact List.mem_filter.mpr ⟨List.mem_append_right _ (List.mem_append_right _ (List.mem_append_right _ (List.mem_append_right _ (List.mem_append_right _ (List.mem_append_right _ (List.mem_append_left _ h)))))), hg⟩
theorem gw_7 {i : Nat} {w : Cond} (h : tables_1_7[i]? = some w) (hg : goodWord w = true) : w ∈ gwT := by
  have h := List.mem_of_getElem? h
  exact List.mem_filter.mpr ⟨List.mem_append_right _ (List.mem_append_right _ (List.mem_append_right _ (List.mem_append_right _ (List.mem_append_right _ (List.mem_append_right _ (List.mem_append_right _ (List.mem_append_left _ h))))))), hg⟩
theorem gw_8 {i : Nat} {w : Cond} (h : tables_1_8[i]? = some w) (hg : goodWord w = true) : w ∈ gwT := by
  have h := List.mem_of_getElem? h
  exact List.mem_filter.mpr ⟨List.mem_append_right _ (List.mem_append_right _ (List.mem_append_right _ (List.mem_append_right _ (List.mem_append_right _ (List.mem_append_right _ (List.mem_append_right _ (List.mem_append_right _ (h)))))))), hg⟩
theorem gw_sub {w : Cond} (h : w ∈ gwT) : w ∈ lw_tbl := (List.mem_filter.mp h).1
theorem gw_good {w : Cond} (h : w ∈ gwT) : goodWord w = true := (List.mem_filter.mp h).2
theorem lookup_mem {α β : Type} [BEq α] [LawfulBEq α] {a : α} {b : β} : ∀ {l : List (α × β)}, l.lookup a = some b → (a, b) ∈ l := by
  intro l
  induction l with
  | nil => intro h; simp at h
  | cons x r ih =>
    intro h
    obtain ⟨k, v⟩ := x
    rw [List.lookup_cons] at h
    split at h
    · rename_i hk
      have := eq_of_beq hk
      cases h
      subst this
      exact List.mem_cons_self
    · exact List.mem_cons_of_mem _ (ih h)
/-- what is wanted of a method -/
def Val (e : MEnt) : Prop := Cond.code (eY e) (eB e) (eL e) (eR e) ∈ gwT ∧ plainFor (eY e) = true ∧ ((eY e).cls ≠ "java/lang/invoke/MethodHandle" ∧ (eY e).cls ≠ "java/lang/invoke/VarHandle") ∧ (parseMethodDescriptor (eY e).desc).map (fun d => d.parameters.length) = some (eN e) ∧ eL e ≤ 31 ∧ (eY e).cls = axR (eC e)
def okFw (c : Nat) (q : Nat × Nat × Nat × Bool × Nat) : Cond := if q.2.2.2.1 = true then .fieldLinkNest (axR c) q.1 (axT q.2.1 q.2.2.1).1 (axT q.2.1 q.2.2.1).2.1 (axT q.2.1 q.2.2.1).2.2.1 RX11 else .fieldLink (axR c) q.1 (axT q.2.1 q.2.2.1).1 (axT q.2.1 q.2.2.1).2.1 (axT q.2.1 q.2.2.1).2.2.1
def okFb (c : Nat) (q : Nat × Nat × Nat × Bool × Nat) : Bool := decide (q.2.1 < 13) && decide (q.2.2.1 < axN q.2.1) && decide (lw_tbl[q.2.2.2.2]? = some (okFw c q)) && (!q.2.2.2.1 || decide ((axT q.2.1 q.2.2.1).1 ≠ axR c))
def okMw (c : Nat) (idx : Nat) (y : MethodName) (k : Nat) : List Cond := match k with
  | 0 => [.methodLink (axR c) idx y, .instanceMethod y, .selects y.cls y y, .initialized y.cls]
  | 1 => [.methodLink (axR c) idx y, .static y, .initialized y.cls]
  | 2 => [.methodLinkNest (axR c) idx y RX11, .static y, .initialized y.cls]
  | _ => [.methodLink (axR c) idx y, .instanceMethod y, .initialized y.cls]
def okMp (k : Nat) (p : List Nat) : List Nat := match k with
  | 0 => p.take 4
  | _ => p.take 2 ++ (p.drop 3).take 1
def okMb (c : Nat) (q : Nat × MEnt × Nat × List Nat) : Bool := decide ((okMp q.2.2.1 q.2.2.2).map (fun i => lw_tbl[i]?) = (okMw c q.1 (eY q.2.1) q.2.2.1).map some) && (match q.2.2.1 with
  | 0 => decide (eC q.2.1 < 13)
  | 3 => decide (eC q.2.1 < 13) && decide ((eY q.2.1).name = "<init>") && decide (eR q.2.1 = none)
  | _ => true)
def okIw (c : Nat) (q : Nat × Nat × Nat) : Cond := match q.2.1 with
  | 0 => .methodLink (axR c) q.1 arraycopyName
  | 1 => .methodLink (axR c) q.1 ⟨"java/lang/String", "length", "()I"⟩
  | 2 => .methodLink (axR c) q.1 ⟨"java/lang/String", "charAt", "(I)C"⟩
  | _ => .methodLink (axR c) q.1 objectInit
def okIb (c : Nat) (q : Nat × Nat × Nat) : Bool := decide (lw_tbl[q.2.2]? = some (okIw c q)) && decide (q.2.1 < 4)
def okGn (k : Nat) : String × String := match k with
  | 1000 => ("LETTERS", "[C")
  | 1001 => ("LEAST", "[I")
  | 1002 => ("MOST", "[I")
  | _ => ("WITHOUT", "[I")
def okGb (c : Nat) (q : Nat × Nat × Nat) : Bool := decide (lw_tbl[q.2.2]? = some (.fieldLink (axR c) q.1 RX7 (okGn q.2.1).1 (okGn q.2.1).2)) && decide (1000 ≤ q.2.1) && decide (q.2.1 < 1004)
def okKb (c : Nat) (q : Nat × Int × Nat) : Bool := decide (lw_tbl[q.2.2]? = some (.constant (axR c) q.1 (Int32.ofInt q.2.1))) && decide (-2147483648 ≤ q.2.1) && decide (q.2.1 ≤ 2147483647)
def okLb (c : Nat) (q : Nat × Int × Nat) : Bool := decide (lw_tbl[q.2.2]? = some (.constantLong (axR c) q.1 (Int64.ofInt q.2.1))) && decide (-9223372036854775808 ≤ q.2.1) && decide (q.2.1 ≤ 9223372036854775807)
def okSx (k : Nat) : String := match k with
  | 1010 => "y"
  | 1011 => "abxyn"
  | 1012 => "ydh"
  | _ => "mc"
def okSb (c : Nat) (q : Nat × Nat × Nat) : Bool := decide (lw_tbl[q.2.2]? = some (.stringRef (axR c) q.1 (okSx q.2.1))) && decide (1010 ≤ q.2.1) && decide (q.2.1 < 1014)
def okNb (c : Nat) (q : Nat × Nat × Nat) : Bool := decide (lw_tbl[q.2.2]? = some (.classLink (axR c) q.1 (axR q.2.1))) && decide (q.2.1 < 13)
theorem lt13 {P : Nat → Prop} (h : ∀ c, c < 15 → P c) (h2 : ∀ n, P (n + 15)) (c : Nat) : P c := by
  by_cases hc : c < 15
  · exact h c hc
  · obtain ⟨n, rfl⟩ : ∃ n, c = n + 15 := ⟨c - 15, by omega⟩
    exact h2 n
theorem all15 {f : Nat → Bool} (h : (List.range 15).all f = true) (c : Nat) (hc : c < 15) : f c = true := List.all_eq_true.mp h c (List.mem_range.mpr hc)
