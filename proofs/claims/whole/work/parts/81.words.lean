def gwT : List Cond := lw_tbl.filter goodWord
theorem gw_of {i : Nat} {w : Cond} (h : lw_tbl[i]? = some w) (hg : goodWord w = true) : w ∈ gwT := List.mem_filter.mpr ⟨List.mem_of_getElem? h, hg⟩
theorem gw_1 {i : Nat} {w : Cond} (h : tables_1_1[i]? = some w) (hg : goodWord w = true) : w ∈ gwT := by
  have h := List.mem_of_getElem? h
  exact List.mem_filter.mpr ⟨List.mem_append_right _ (List.mem_append_left _ h), hg⟩
theorem gw_2 {i : Nat} {w : Cond} (h : tables_1_2[i]? = some w) (hg : goodWord w = true) : w ∈ gwT := by
  have h := List.mem_of_getElem? h
  exact List.mem_filter.mpr ⟨List.mem_append_right _ (List.mem_append_right _ (List.mem_append_left _ h)), hg⟩
theorem gw_3 {i : Nat} {w : Cond} (h : tables_1_3[i]? = some w) (hg : goodWord w = true) : w ∈ gwT := by
  have h := List.mem_of_getElem? h
  exact List.mem_filter.mpr ⟨List.mem_append_right _ (List.mem_append_right _ (List.mem_append_right _ (List.mem_append_left _ h))), hg⟩
theorem gw_4 {i : Nat} {w : Cond} (h : tables_1_4[i]? = some w) (hg : goodWord w = true) : w ∈ gwT := by
  have h := List.mem_of_getElem? h
  exact List.mem_filter.mpr ⟨List.mem_append_right _ (List.mem_append_right _ (List.mem_append_right _ (List.mem_append_right _ (List.mem_append_left _ h)))), hg⟩
theorem gw_5 {i : Nat} {w : Cond} (h : tables_1_5[i]? = some w) (hg : goodWord w = true) : w ∈ gwT := by
  have h := List.mem_of_getElem? h
  exact List.mem_filter.mpr ⟨List.mem_append_right _ (List.mem_append_right _ (List.mem_append_right _ (List.mem_append_right _ (List.mem_append_right _ (List.mem_append_left _ h))))), hg⟩
theorem gw_6 {i : Nat} {w : Cond} (h : tables_1_6[i]? = some w) (hg : goodWord w = true) : w ∈ gwT := by
  have h := List.mem_of_getElem? h
  exact List.mem_filter.mpr ⟨List.mem_append_right _ (List.mem_append_right _ (List.mem_append_right _ (List.mem_append_right _ (List.mem_append_right _ (List.mem_append_right _ (List.mem_append_left _ h)))))), hg⟩
theorem gw_7 {i : Nat} {w : Cond} (h : tables_1_7[i]? = some w) (hg : goodWord w = true) : w ∈ gwT := by
  have h := List.mem_of_getElem? h
  exact List.mem_filter.mpr ⟨List.mem_append_right _ (List.mem_append_right _ (List.mem_append_right _ (List.mem_append_right _ (List.mem_append_right _ (List.mem_append_right _ (List.mem_append_right _ (List.mem_append_left _ h))))))), hg⟩
theorem gw_8 {i : Nat} {w : Cond} (h : tables_1_8[i]? = some w) (hg : goodWord w = true) : w ∈ gwT := by
  have h := List.mem_of_getElem? h
  exact List.mem_filter.mpr ⟨List.mem_append_right _ (List.mem_append_right _ (List.mem_append_right _ (List.mem_append_right _ (List.mem_append_right _ (List.mem_append_right _ (List.mem_append_right _ (List.mem_append_right _ (h)))))))), hg⟩
theorem gw_sub {w : Cond} (h : w ∈ gwT) : w ∈ lw_tbl := (List.mem_filter.mp h).1
theorem gw_good {w : Cond} (h : w ∈ gwT) : goodWord w = true := (List.mem_filter.mp h).2
theorem lookup_mem {α β : Type} [BEq α] [LawfulBEq α] {a : α} {b : β} : ∀ {l : List (α × β)}, l.lookup a = some b → (a, b) ∈ l := by
  intro l
  induction l with
  | nil => intro h; simp at h
  | cons x r ih =>
    intro h
    obtain ⟨k, v⟩ := x
    rw [List.lookup_cons] at h
    split at h
    · rename_i hk
      have := eq_of_beq hk
      cases h
      subst this
      exact List.mem_cons_self
    · exact List.mem_cons_of_mem _ (ih h)
/-- what is wanted of a method -/
def Val (e : MEnt) : Prop := Cond.code (eY e) (eB e) (eL e) (eR e) ∈ gwT ∧ plainFor (eY e) = true ∧ ((eY e).cls ≠ "java/lang/invoke/MethodHandle" ∧ (eY e).cls ≠ "java/lang/invoke/VarHandle") ∧ (parseMethodDescriptor (eY e).desc).map (fun d => d.parameters.length) = some (eN e) ∧ eL e ≤ 31 ∧ (eY e).cls = axR (eC e)
def okFw (c : Nat) (q : Nat × Nat × Nat × Bool × Nat) : Cond := if q.2.2.2.1 = true then .fieldLinkNest (axR c) q.1 (axT q.2.1 q.2.2.1).1 (axT q.2.1 q.2.2.1).2.1 (axT q.2.1 q.2.2.1).2.2.1 RX11 else .fieldLink (axR c) q.1 (axT q.2.1 q.2.2.1).1 (axT q.2.1 q.2.2.1).2.1 (axT q.2.1 q.2.2.1).2.2.1
def okFb (c : Nat) (q : Nat × Nat × Nat × Bool × Nat) : Bool := decide (q.2.1 < 13) && decide (q.2.2.1 < axN q.2.1) && decide (lw_tbl[q.2.2.2.2]? = some (okFw c q)) && (!q.2.2.2.1 || decide ((axT q.2.1 q.2.2.1).1 ≠ axR c))
def okMw (c : Nat) (idx : Nat) (y : MethodName) (k : Nat) : List Cond := match k with
  | 0 => [.methodLink (axR c) idx y, .instanceMethod y, .selects y.cls y y, .initialized y.cls]
  | 1 => [.methodLink (axR c) idx y, .static y, .initialized y.cls]
  | 2 => [.methodLinkNest (axR c) idx y RX11, .static y, .initialized y.cls]
  | _ => [.methodLink (axR c) idx y, .instanceMethod y, .initialized y.cls]
def okMp (k : Nat) (p : List Nat) : List Nat := match k with
  | 0 => p.take 4
  | _ => p.take 2 ++ (p.drop 3).take 1
def okMb (c : Nat) (q : Nat × MEnt × Nat × List Nat) : Bool := decide ((okMp q.2.2.1 q.2.2.2).map (fun i => lw_tbl[i]?) = (okMw c q.1 (eY q.2.1) q.2.2.1).map some) && (match q.2.2.1 with
  | 0 => decide (eC q.2.1 < 13)
  | 3 => decide (eC q.2.1 < 13) && decide ((eY q.2.1).name = "<init>") && decide (eR q.2.1 = none)
  | _ => true)
def okIw (c : Nat) (q : Nat × Nat × Nat) : Cond := match q.2.1 with
  | 0 => .methodLink (axR c) q.1 arraycopyName
  | 1 => .methodLink (axR c) q.1 ⟨"java/lang/String", "length", "()I"⟩
  | 2 => .methodLink (axR c) q.1 ⟨"java/lang/String", "charAt", "(I)C"⟩
  | _ => .methodLink (axR c) q.1 objectInit
def okIb (c : Nat) (q : Nat × Nat × Nat) : Bool := decide (lw_tbl[q.2.2]? = some (okIw c q)) && decide (q.2.1 < 4)
def okGn (k : Nat) : String × String := match k with
  | 1000 => ("LETTERS", "[C")
  | 1001 => ("LEAST", "[I")
  | 1002 => ("MOST", "[I")
  | _ => ("WITHOUT", "[I")
def okGb (c : Nat) (q : Nat × Nat × Nat) : Bool := decide (lw_tbl[q.2.2]? = some (.fieldLink (axR c) q.1 RX7 (okGn q.2.1).1 (okGn q.2.1).2)) && decide (1000 ≤ q.2.1) && decide (q.2.1 < 1004)
def okKb (c : Nat) (q : Nat × Int × Nat) : Bool := decide (lw_tbl[q.2.2]? = some (.constant (axR c) q.1 (Int32.ofInt q.2.1))) && decide (-2147483648 ≤ q.2.1) && decide (q.2.1 ≤ 2147483647)
def okLb (c : Nat) (q : Nat × Int × Nat) : Bool := decide (lw_tbl[q.2.2]? = some (.constantLong (axR c) q.1 (Int64.ofInt q.2.1))) && decide (-9223372036854775808 ≤ q.2.1) && decide (q.2.1 ≤ 9223372036854775807)
def okSx (k : Nat) : String := match k with
  | 1010 => "y"
  | 1011 => "abxyn"
  | 1012 => "ydh"
  | _ => "mc"
def okSb (c : Nat) (q : Nat × Nat × Nat) : Bool := decide (lw_tbl[q.2.2]? = some (.stringRef (axR c) q.1 (okSx q.2.1))) && decide (1010 ≤ q.2.1) && decide (q.2.1 < 1014)
def okNb (c : Nat) (q : Nat × Nat × Nat) : Bool := decide (lw_tbl[q.2.2]? = some (.classLink (axR c) q.1 (axR q.2.1))) && decide (q.2.1 < 13)
theorem lt13 {P : Nat → Prop} (h : ∀ c, c < 15 → P c) (h2 : ∀ n, P (n + 15)) (c : Nat) : P c := by
  by_cases hc : c < 15
  · exact h c hc
  · obtain ⟨n, rfl⟩ : ∃ n, c = n + 15 := ⟨c - 15, by omega⟩
    exact h2 n
theorem all15 {f : Nat → Bool} (h : (List.range 15).all f = true) (c : Nat) (hc : c < 15) : f c = true := List.all_eq_true.mp h c (List.mem_range.mpr hc)
theorem axF_ok (c : Nat) (q : Nat × Nat × Nat × Bool × Nat) (h : q ∈ axFt c) : okFb c q = true :=
  lt13 (P := fun c => ∀ q ∈ axFt c, okFb c q = true) (fun c hc => List.all_eq_true.mp (all15 (f := fun c => (axFt c).all (okFb c)) (by decide +kernel) c hc)) (fun n q h => by cases h) c q h
theorem axM_ok (c : Nat) (q : Nat × MEnt × Nat × List Nat) (h : q ∈ axMt c) : okMb c q = true :=
  lt13 (P := fun c => ∀ q ∈ axMt c, okMb c q = true) (fun c hc => List.all_eq_true.mp (all15 (f := fun c => (axMt c).all (okMb c)) (by decide +kernel) c hc)) (fun n q h => by cases h) c q h
theorem axI_ok (c : Nat) (q : Nat × Nat × Nat) (h : q ∈ axIt c) : okIb c q = true :=
  lt13 (P := fun c => ∀ q ∈ axIt c, okIb c q = true) (fun c hc => List.all_eq_true.mp (all15 (f := fun c => (axIt c).all (okIb c)) (by decide +kernel) c hc)) (fun n q h => by cases h) c q h
theorem axG_ok (c : Nat) (q : Nat × Nat × Nat) (h : q ∈ axGt c) : okGb c q = true :=
  lt13 (P := fun c => ∀ q ∈ axGt c, okGb c q = true) (fun c hc => List.all_eq_true.mp (all15 (f := fun c => (axGt c).all (okGb c)) (by decide +kernel) c hc)) (fun n q h => by cases h) c q h
theorem axK_ok (c : Nat) (q : Nat × Int × Nat) (h : q ∈ axKt c) : okKb c q = true :=
  lt13 (P := fun c => ∀ q ∈ axKt c, okKb c q = true) (fun c hc => List.all_eq_true.mp (all15 (f := fun c => (axKt c).all (okKb c)) (by decide +kernel) c hc)) (fun n q h => by cases h) c q h
theorem axL_ok (c : Nat) (q : Nat × Int × Nat) (h : q ∈ axLt c) : okLb c q = true :=
  lt13 (P := fun c => ∀ q ∈ axLt c, okLb c q = true) (fun c hc => List.all_eq_true.mp (all15 (f := fun c => (axLt c).all (okLb c)) (by decide +kernel) c hc)) (fun n q h => by cases h) c q h
theorem axS_ok (c : Nat) (q : Nat × Nat × Nat) (h : q ∈ axSt c) : okSb c q = true :=
  lt13 (P := fun c => ∀ q ∈ axSt c, okSb c q = true) (fun c hc => List.all_eq_true.mp (all15 (f := fun c => (axSt c).all (okSb c)) (by decide +kernel) c hc)) (fun n q h => by cases h) c q h
theorem axN_ok (c : Nat) (q : Nat × Nat × Nat) (h : q ∈ axNt c) : okNb c q = true :=
  lt13 (P := fun c => ∀ q ∈ axNt c, okNb c q = true) (fun c hc => List.all_eq_true.mp (all15 (f := fun c => (axNt c).all (okNb c)) (by decide +kernel) c hc)) (fun n q h => by cases h) c q h
set_option maxRecDepth 100000 in
theorem vmX0_init : Val mX0_init := ⟨gw_2 (i := 109) rfl rfl, by decide +kernel⟩
set_option maxRecDepth 100000 in
theorem vmX0_mark : Val mX0_mark := ⟨gw_4 (i := 203) rfl rfl, by decide +kernel⟩
set_option maxRecDepth 100000 in
theorem vmX0_many : Val mX0_many := ⟨gw_4 (i := 207) rfl rfl, by decide +kernel⟩
set_option maxRecDepth 100000 in
theorem vmX0_least : Val mX0_least := ⟨gw_4 (i := 211) rfl rfl, by decide +kernel⟩
set_option maxRecDepth 100000 in
theorem vmX0_greatest : Val mX0_greatest := ⟨gw_4 (i := 236) rfl rfl, by decide +kernel⟩
set_option maxRecDepth 100000 in
theorem vmX0_longestRow : Val mX0_longestRow := ⟨gw_4 (i := 215) rfl rfl, by decide +kernel⟩
set_option maxRecDepth 100000 in
theorem vmX1_init : Val mX1_init := ⟨gw_2 (i := 41) rfl rfl, by decide +kernel⟩
set_option maxRecDepth 100000 in
theorem vmX1_fewestParts : Val mX1_fewestParts := ⟨gw_4 (i := 39) rfl rfl, by decide +kernel⟩
set_option maxRecDepth 100000 in
theorem vmX1_leastRooms : Val mX1_leastRooms := ⟨gw_5 (i := 109) rfl rfl, by decide +kernel⟩
set_option maxRecDepth 100000 in
theorem vmX1_partsHold : Val mX1_partsHold := ⟨gw_4 (i := 43) rfl rfl, by decide +kernel⟩
set_option maxRecDepth 100000 in
theorem vmX1_lowestLiving : Val mX1_lowestLiving := ⟨gw_4 (i := 81) rfl rfl, by decide +kernel⟩
set_option maxRecDepth 100000 in
theorem vmX1_seekBest : Val mX1_seekBest := ⟨gw_5 (i := 33) rfl rfl, by decide +kernel⟩
set_option maxRecDepth 100000 in
theorem vmX1_prepareTold : Val mX1_prepareTold := ⟨gw_4 (i := 85) rfl rfl, by decide +kernel⟩
set_option maxRecDepth 100000 in
theorem vmX1_prepare : Val mX1_prepare := ⟨gw_4 (i := 47) rfl rfl, by decide +kernel⟩
set_option maxRecDepth 100000 in
theorem vmX1_takes : Val mX1_takes := ⟨gw_4 (i := 60) rfl rfl, by decide +kernel⟩
set_option maxRecDepth 100000 in
theorem vmX1_place : Val mX1_place := ⟨gw_4 (i := 56) rfl rfl, by decide +kernel⟩
set_option maxRecDepth 100000 in
theorem vmX1_seek : Val mX1_seek := ⟨gw_5 (i := 38) rfl rfl, by decide +kernel⟩
set_option maxRecDepth 100000 in
theorem vmX2_init : Val mX2_init := ⟨gw_1 (i := 93) rfl rfl, by decide +kernel⟩
set_option maxRecDepth 100000 in
theorem vmX2_reads : Val mX2_reads := ⟨gw_3 (i := 13) rfl rfl, by decide +kernel⟩
set_option maxRecDepth 100000 in
theorem vmX2_readClause : Val mX2_readClause := ⟨gw_3 (i := 22) rfl rfl, by decide +kernel⟩
set_option maxRecDepth 100000 in
theorem vmX2_guarded : Val mX2_guarded := ⟨gw_3 (i := 77) rfl rfl, by decide +kernel⟩
set_option maxRecDepth 100000 in
theorem vmX2_condition : Val mX2_condition := ⟨gw_3 (i := 28) rfl rfl, by decide +kernel⟩
set_option maxRecDepth 100000 in
theorem vmX2_moreTruths : Val mX2_moreTruths := ⟨gw_3 (i := 73) rfl rfl, by decide +kernel⟩
set_option maxRecDepth 100000 in
theorem vmX2_truth : Val mX2_truth := ⟨gw_3 (i := 32) rfl rfl, by decide +kernel⟩
set_option maxRecDepth 100000 in
theorem vmX2_moreUnits : Val mX2_moreUnits := ⟨gw_3 (i := 69) rfl rfl, by decide +kernel⟩
set_option maxRecDepth 100000 in
theorem vmX2_unit : Val mX2_unit := ⟨gw_3 (i := 36) rfl rfl, by decide +kernel⟩
set_option maxRecDepth 100000 in
theorem vmX2_relation : Val mX2_relation := ⟨gw_3 (i := 62) rfl rfl, by decide +kernel⟩
set_option maxRecDepth 100000 in
theorem vmX2_sum : Val mX2_sum := ⟨gw_3 (i := 40) rfl rfl, by decide +kernel⟩
set_option maxRecDepth 100000 in
theorem vmX2_term : Val mX2_term := ⟨gw_3 (i := 44) rfl rfl, by decide +kernel⟩
set_option maxRecDepth 100000 in
theorem vmX2_atom : Val mX2_atom := ⟨gw_3 (i := 48) rfl rfl, by decide +kernel⟩
set_option maxRecDepth 100000 in
theorem vmX3_init : Val mX3_init := ⟨gw_1 (i := 133) rfl rfl, by decide +kernel⟩
set_option maxRecDepth 100000 in
theorem vmX3_keep : Val mX3_keep := ⟨gw_3 (i := 102) rfl rfl, by decide +kernel⟩
set_option maxRecDepth 100000 in
theorem vmX3_forbid : Val mX3_forbid := ⟨gw_3 (i := 158) rfl rfl, by decide +kernel⟩
set_option maxRecDepth 100000 in
theorem vmX3_steadyDays : Val mX3_steadyDays := ⟨gw_3 (i := 210) rfl rfl, by decide +kernel⟩
set_option maxRecDepth 100000 in
theorem vmX3_daysTillBirthday : Val mX3_daysTillBirthday := ⟨gw_3 (i := 213) rfl rfl, by decide +kernel⟩
set_option maxRecDepth 100000 in
theorem vmX4_init : Val mX4_init := ⟨gw_2 (i := 77) rfl rfl, by decide +kernel⟩
set_option maxRecDepth 100000 in
theorem vmX4_lay : Val mX4_lay := ⟨gw_4 (i := 107) rfl rfl, by decide +kernel⟩
set_option maxRecDepth 100000 in
theorem vmX4_homeIn : Val mX4_homeIn := ⟨gw_4 (i := 116) rfl rfl, by decide +kernel⟩
set_option maxRecDepth 100000 in
theorem vmX4_matesIn : Val mX4_matesIn := ⟨gw_4 (i := 112) rfl rfl, by decide +kernel⟩
set_option maxRecDepth 100000 in
theorem vmX4_hasRooms : Val mX4_hasRooms := ⟨gw_4 (i := 121) rfl rfl, by decide +kernel⟩
set_option maxRecDepth 100000 in
theorem vmX4_isLawful : Val mX4_isLawful := ⟨gw_4 (i := 137) rfl rfl, by decide +kernel⟩
set_option maxRecDepth 100000 in
theorem vmX4_fewestMoves : Val mX4_fewestMoves := ⟨gw_4 (i := 125) rfl rfl, by decide +kernel⟩
set_option maxRecDepth 100000 in
theorem vmX4_movesInto : Val mX4_movesInto := ⟨gw_4 (i := 129) rfl rfl, by decide +kernel⟩
set_option maxRecDepth 100000 in
theorem vmX4_shut : Val mX4_shut := ⟨gw_4 (i := 133) rfl rfl, by decide +kernel⟩
set_option maxRecDepth 100000 in
theorem vmX4_spread : Val mX4_spread := ⟨gw_4 (i := 142) rfl rfl, by decide +kernel⟩
set_option maxRecDepth 100000 in
theorem vmX4_spreadFor : Val mX4_spreadFor := ⟨gw_4 (i := 146) rfl rfl, by decide +kernel⟩
set_option maxRecDepth 100000 in
theorem vmX4_stateWith : Val mX4_stateWith := ⟨gw_4 (i := 150) rfl rfl, by decide +kernel⟩
set_option maxRecDepth 100000 in
theorem vmX4_stateOf : Val mX4_stateOf := ⟨gw_4 (i := 164) rfl rfl, by decide +kernel⟩
set_option maxRecDepth 100000 in
theorem vmX4_stateTold : Val mX4_stateTold := ⟨gw_4 (i := 169) rfl rfl, by decide +kernel⟩
set_option maxRecDepth 100000 in
theorem vmX4_stepsBetween : Val mX4_stepsBetween := ⟨gw_4 (i := 173) rfl rfl, by decide +kernel⟩
set_option maxRecDepth 100000 in
theorem vmX4_measure : Val mX4_measure := ⟨gw_4 (i := 177) rfl rfl, by decide +kernel⟩
set_option maxRecDepth 100000 in
theorem vmX4_measureFrom : Val mX4_measureFrom := ⟨gw_4 (i := 181) rfl rfl, by decide +kernel⟩
set_option maxRecDepth 100000 in
theorem vmX4_stepOfRow : Val mX4_stepOfRow := ⟨gw_4 (i := 185) rfl rfl, by decide +kernel⟩
set_option maxRecDepth 100000 in
theorem vmX4_stepTowards : Val mX4_stepTowards := ⟨gw_4 (i := 189) rfl rfl, by decide +kernel⟩
set_option maxRecDepth 100000 in
theorem vmX5_init : Val mX5_init := ⟨gw_2 (i := 19) rfl rfl, by decide +kernel⟩
set_option maxRecDepth 100000 in
theorem vmX5_look : Val mX5_look := ⟨gw_3 (i := 233) rfl rfl, by decide +kernel⟩
set_option maxRecDepth 100000 in
theorem vmX5_lookAtPair : Val mX5_lookAtPair := ⟨gw_3 (i := 238) rfl rfl, by decide +kernel⟩
set_option maxRecDepth 100000 in
theorem vmX5_pairsOf : Val mX5_pairsOf := ⟨gw_4 (i := 13) rfl rfl, by decide +kernel⟩
set_option maxRecDepth 100000 in
theorem vmX5_everAtOdds : Val mX5_everAtOdds := ⟨gw_5 (i := 117) rfl rfl, by decide +kernel⟩
set_option maxRecDepth 100000 in
theorem vmX5_atOddsWithin : Val mX5_atOddsWithin := ⟨gw_4 (i := 22) rfl rfl, by decide +kernel⟩
set_option maxRecDepth 100000 in
theorem vmX5_foesOf : Val mX5_foesOf := ⟨gw_4 (i := 52) rfl rfl, by decide +kernel⟩
set_option maxRecDepth 100000 in
theorem vmX5_firstUnlawful : Val mX5_firstUnlawful := ⟨gw_4 (i := 8) rfl rfl, by decide +kernel⟩
set_option maxRecDepth 100000 in
theorem vmX5_unlawfulHouse : Val mX5_unlawfulHouse := ⟨gw_4 (i := 18) rfl rfl, by decide +kernel⟩
set_option maxRecDepth 100000 in
theorem vmX5_greatestQuarrel : Val mX5_greatestQuarrel := ⟨gw_4 (i := 65) rfl rfl, by decide +kernel⟩
set_option maxRecDepth 100000 in
theorem vmX5_allAtOddsOnce : Val mX5_allAtOddsOnce := ⟨gw_4 (i := 69) rfl rfl, by decide +kernel⟩
set_option maxRecDepth 100000 in
theorem vmX5_busiest : Val mX5_busiest := ⟨gw_5 (i := 101) rfl rfl, by decide +kernel⟩
set_option maxRecDepth 100000 in
theorem vmX6_init : Val mX6_init := ⟨gw_1 (i := 127) rfl rfl, by decide +kernel⟩
set_option maxRecDepth 100000 in
theorem vmX6_settle : Val mX6_settle := ⟨gw_3 (i := 95) rfl rfl, by decide +kernel⟩
set_option maxRecDepth 100000 in
theorem vmX6_atOdds : Val mX6_atOdds := ⟨gw_3 (i := 154) rfl rfl, by decide +kernel⟩
set_option maxRecDepth 100000 in
theorem vmX6_daysAtOdds : Val mX6_daysAtOdds := ⟨gw_3 (i := 202) rfl rfl, by decide +kernel⟩
set_option maxRecDepth 100000 in
theorem vmX6_steadyFrom : Val mX6_steadyFrom := ⟨gw_3 (i := 206) rfl rfl, by decide +kernel⟩
set_option maxRecDepth 100000 in
theorem vmX6_daysOfPeace : Val mX6_daysOfPeace := ⟨gw_3 (i := 221) rfl rfl, by decide +kernel⟩
set_option maxRecDepth 100000 in
theorem vmX6_dwellers : Val mX6_dwellers := ⟨gw_3 (i := 120) rfl rfl, by decide +kernel⟩
set_option maxRecDepth 100000 in
theorem vmX6_homeless : Val mX6_homeless := ⟨gw_4 (i := 158) rfl rfl, by decide +kernel⟩
set_option maxRecDepth 100000 in
theorem vmX6_underOneRoof : Val mX6_underOneRoof := ⟨gw_4 (i := 31) rfl rfl, by decide +kernel⟩
set_option maxRecDepth 100000 in
theorem vmX6_mayLive : Val mX6_mayLive := ⟨gw_5 (i := 16) rfl rfl, by decide +kernel⟩
set_option maxRecDepth 100000 in
theorem vmX6_mayChange : Val mX6_mayChange := ⟨gw_5 (i := 93) rfl rfl, by decide +kernel⟩
set_option maxRecDepth 100000 in
theorem vmX6_peaceAtHome : Val mX6_peaceAtHome := ⟨gw_5 (i := 59) rfl rfl, by decide +kernel⟩
set_option maxRecDepth 100000 in
theorem vmX6_bearsLodger : Val mX6_bearsLodger := ⟨gw_4 (i := 198) rfl rfl, by decide +kernel⟩
set_option maxRecDepth 100000 in
theorem vmX6_remember : Val mX6_remember := ⟨gw_4 (i := 224) rfl rfl, by decide +kernel⟩
set_option maxRecDepth 100000 in
theorem vmX6_agreesWithSaid : Val mX6_agreesWithSaid := ⟨gw_4 (i := 232) rfl rfl, by decide +kernel⟩
set_option maxRecDepth 100000 in
theorem vmX6_gainOf : Val mX6_gainOf := ⟨gw_5 (i := 12) rfl rfl, by decide +kernel⟩
set_option maxRecDepth 100000 in
theorem vmX6_wishOf : Val mX6_wishOf := ⟨gw_5 (i := 8) rfl rfl, by decide +kernel⟩
set_option maxRecDepth 100000 in
theorem vmX6_takeTurns : Val mX6_takeTurns := ⟨gw_5 (i := 24) rfl rfl, by decide +kernel⟩
set_option maxRecDepth 100000 in
theorem vmX6_goOn : Val mX6_goOn := ⟨gw_5 (i := 54) rfl rfl, by decide +kernel⟩
set_option maxRecDepth 100000 in
theorem vmX6_lowestOpen : Val mX6_lowestOpen := ⟨gw_5 (i := 64) rfl rfl, by decide +kernel⟩
set_option maxRecDepth 100000 in
theorem vmX6_shift : Val mX6_shift := ⟨gw_5 (i := 68) rfl rfl, by decide +kernel⟩
set_option maxRecDepth 100000 in
theorem vmX6_drawDeaths : Val mX6_drawDeaths := ⟨gw_5 (i := 72) rfl rfl, by decide +kernel⟩
set_option maxRecDepth 100000 in
theorem vmX7_init : Val mX7_init := ⟨gw_1 (i := 59) rfl rfl, by decide +kernel⟩
set_option maxRecDepth 100000 in
theorem vmX7_reads : Val mX7_reads := ⟨gw_2 (i := 170) rfl rfl, by decide +kernel⟩
set_option maxRecDepth 100000 in
theorem vmX7_readClause : Val mX7_readClause := ⟨gw_2 (i := 178) rfl rfl, by decide +kernel⟩
set_option maxRecDepth 100000 in
theorem vmX7_readPerson : Val mX7_readPerson := ⟨gw_2 (i := 190) rfl rfl, by decide +kernel⟩
set_option maxRecDepth 100000 in
theorem vmX7_readHouse : Val mX7_readHouse := ⟨gw_2 (i := 235) rfl rfl, by decide +kernel⟩
set_option maxRecDepth 100000 in
theorem vmX7_readItems : Val mX7_readItems := ⟨gw_2 (i := 194) rfl rfl, by decide +kernel⟩
set_option maxRecDepth 100000 in
theorem vmX7_kindOf : Val mX7_kindOf := ⟨gw_2 (i := 199) rfl rfl, by decide +kernel⟩
set_option maxRecDepth 100000 in
theorem vmX7_isWhole : Val mX7_isWhole := ⟨gw_3 (i := 4) rfl rfl, by decide +kernel⟩
set_option maxRecDepth 100000 in
theorem vmX8_init : Val mX8_init := ⟨gw_1 (i := 99) rfl rfl, by decide +kernel⟩
set_option maxRecDepth 100000 in
theorem vmX8_letter : Val mX8_letter := ⟨gw_3 (i := 53) rfl rfl, by decide +kernel⟩
set_option maxRecDepth 100000 in
theorem vmX8_relation : Val mX8_relation := ⟨gw_3 (i := 65) rfl rfl, by decide +kernel⟩
set_option maxRecDepth 100000 in
theorem vmX8_clear : Val mX8_clear := ⟨gw_3 (i := 17) rfl rfl, by decide +kernel⟩
set_option maxRecDepth 100000 in
theorem vmX8_add : Val mX8_add := ⟨gw_3 (i := 57) rfl rfl, by decide +kernel⟩
set_option maxRecDepth 100000 in
theorem vmX8_addBranch : Val mX8_addBranch := ⟨gw_3 (i := 81) rfl rfl, by decide +kernel⟩
set_option maxRecDepth 100000 in
theorem vmX8_landHere : Val mX8_landHere := ⟨gw_3 (i := 86) rfl rfl, by decide +kernel⟩
set_option maxRecDepth 100000 in
theorem vmX8_copy : Val mX8_copy := ⟨gw_3 (i := 106) rfl rfl, by decide +kernel⟩
set_option maxRecDepth 100000 in
theorem vmX8_worthFor : Val mX8_worthFor := ⟨gw_3 (i := 183) rfl rfl, by decide +kernel⟩
set_option maxRecDepth 100000 in
theorem vmX8_join : Val mX8_join := ⟨gw_3 (i := 186) rfl rfl, by decide +kernel⟩
set_option maxRecDepth 100000 in
theorem vmX9_init : Val mX9_init := ⟨gw_1 (i := 155) rfl rfl, by decide +kernel⟩
set_option maxRecDepth 100000 in
theorem vmX9_copy : Val mX9_copy := ⟨gw_5 (i := 133) rfl rfl, by decide +kernel⟩
set_option maxRecDepth 100000 in
theorem vmX10_init : Val mX10_init := ⟨gw_1 (i := 37) rfl rfl, by decide +kernel⟩
set_option maxRecDepth 100000 in
theorem vmX10_add : Val mX10_add := ⟨gw_2 (i := 147) rfl rfl, by decide +kernel⟩
set_option maxRecDepth 100000 in
theorem vmX10_cut : Val mX10_cut := ⟨gw_2 (i := 162) rfl rfl, by decide +kernel⟩
set_option maxRecDepth 100000 in
theorem vmX10_signsIn : Val mX10_signsIn := ⟨gw_2 (i := 150) rfl rfl, by decide +kernel⟩
set_option maxRecDepth 100000 in
theorem vmX10_put : Val mX10_put := ⟨gw_2 (i := 154) rfl rfl, by decide +kernel⟩
set_option maxRecDepth 100000 in
theorem vmX10_rewind : Val mX10_rewind := ⟨gw_2 (i := 174) rfl rfl, by decide +kernel⟩
set_option maxRecDepth 100000 in
theorem vmX10_here : Val mX10_here := ⟨gw_2 (i := 218) rfl rfl, by decide +kernel⟩
set_option maxRecDepth 100000 in
theorem vmX10_ahead : Val mX10_ahead := ⟨gw_2 (i := 182) rfl rfl, by decide +kernel⟩
set_option maxRecDepth 100000 in
theorem vmX10_ended : Val mX10_ended := ⟨gw_3 (i := 0) rfl rfl, by decide +kernel⟩
set_option maxRecDepth 100000 in
theorem vmX10_step : Val mX10_step := ⟨gw_2 (i := 186) rfl rfl, by decide +kernel⟩
set_option maxRecDepth 100000 in
theorem vmX10_pass : Val mX10_pass := ⟨gw_3 (i := 8) rfl rfl, by decide +kernel⟩
set_option maxRecDepth 100000 in
theorem vmX10_fail : Val mX10_fail := ⟨gw_2 (i := 225) rfl rfl, by decide +kernel⟩
set_option maxRecDepth 100000 in
theorem vmX10_number : Val mX10_number := ⟨gw_2 (i := 213) rfl rfl, by decide +kernel⟩
set_option maxRecDepth 100000 in
theorem vmX10_numberWithin : Val mX10_numberWithin := ⟨gw_2 (i := 209) rfl rfl, by decide +kernel⟩
set_option maxRecDepth 100000 in
theorem vmX10_isDigit : Val mX10_isDigit := ⟨gw_2 (i := 221) rfl rfl, by decide +kernel⟩
set_option maxRecDepth 100000 in
theorem vmX11_init : Val mX11_init := ⟨gw_1 (i := 29) rfl rfl, by decide +kernel⟩
set_option maxRecDepth 100000 in
theorem vmX11_feed : Val mX11_feed := ⟨gw_2 (i := 143) rfl rfl, by decide +kernel⟩
set_option maxRecDepth 100000 in
theorem vmX11_end : Val mX11_end := ⟨gw_2 (i := 158) rfl rfl, by decide +kernel⟩
set_option maxRecDepth 100000 in
theorem vmX11_fault : Val mX11_fault := ⟨gw_2 (i := 166) rfl rfl, by decide +kernel⟩
set_option maxRecDepth 100000 in
theorem vmX11_text : Val mX11_text := ⟨gw_3 (i := 91) rfl rfl, by decide +kernel⟩
set_option maxRecDepth 100000 in
theorem vmX11_person : Val mX11_person := ⟨gw_5 (i := 150) rfl rfl, by decide +kernel⟩
set_option maxRecDepth 100000 in
theorem vmX11_house : Val mX11_house := ⟨gw_3 (i := 111) rfl rfl, by decide +kernel⟩
set_option maxRecDepth 100000 in
theorem vmX11_law : Val mX11_law := ⟨gw_3 (i := 130) rfl rfl, by decide +kernel⟩
set_option maxRecDepth 100000 in
theorem vmX11_today : Val mX11_today := ⟨gw_3 (i := 138) rfl rfl, by decide +kernel⟩
set_option maxRecDepth 100000 in
theorem vmX11_clash : Val mX11_clash := ⟨gw_3 (i := 142) rfl rfl, by decide +kernel⟩
set_option maxRecDepth 100000 in
theorem vmX11_clashes : Val mX11_clashes := ⟨gw_3 (i := 194) rfl rfl, by decide +kernel⟩
set_option maxRecDepth 100000 in
theorem vmX11_move : Val mX11_move := ⟨gw_3 (i := 225) rfl rfl, by decide +kernel⟩
set_option maxRecDepth 100000 in
theorem vmX11_judge : Val mX11_judge := ⟨gw_3 (i := 229) rfl rfl, by decide +kernel⟩
set_option maxRecDepth 100000 in
theorem vmX11_worst : Val mX11_worst := ⟨gw_4 (i := 27) rfl rfl, by decide +kernel⟩
set_option maxRecDepth 100000 in
theorem vmX11_fewest : Val mX11_fewest := ⟨gw_4 (i := 35) rfl rfl, by decide +kernel⟩
set_option maxRecDepth 100000 in
theorem vmX11_lasts : Val mX11_lasts := ⟨gw_4 (i := 73) rfl rfl, by decide +kernel⟩
set_option maxRecDepth 100000 in
theorem vmX11_bars : Val mX11_bars := ⟨gw_4 (i := 89) rfl rfl, by decide +kernel⟩
set_option maxRecDepth 100000 in
theorem vmX11_moves : Val mX11_moves := ⟨gw_4 (i := 99) rfl rfl, by decide +kernel⟩
set_option maxRecDepth 100000 in
theorem vmX11_night : Val mX11_night := ⟨gw_4 (i := 154) rfl rfl, by decide +kernel⟩
set_option maxRecDepth 100000 in
theorem vmX11_lodger : Val mX11_lodger := ⟨gw_4 (i := 193) rfl rfl, by decide +kernel⟩
set_option maxRecDepth 100000 in
theorem vmX11_say : Val mX11_say := ⟨gw_4 (i := 220) rfl rfl, by decide +kernel⟩
set_option maxRecDepth 100000 in
theorem vmX11_known : Val mX11_known := ⟨gw_4 (i := 228) rfl rfl, by decide +kernel⟩
set_option maxRecDepth 100000 in
theorem vmX11_worth : Val mX11_worth := ⟨gw_5 (i := 0) rfl rfl, by decide +kernel⟩
set_option maxRecDepth 100000 in
theorem vmX11_rather : Val mX11_rather := ⟨gw_5 (i := 4) rfl rfl, by decide +kernel⟩
set_option maxRecDepth 100000 in
theorem vmX11_turn : Val mX11_turn := ⟨gw_5 (i := 20) rfl rfl, by decide +kernel⟩
set_option maxRecDepth 100000 in
theorem vmX11_best : Val mX11_best := ⟨gw_5 (i := 29) rfl rfl, by decide +kernel⟩
set_option maxRecDepth 100000 in
theorem vmX11_risk : Val mX11_risk := ⟨gw_5 (i := 42) rfl rfl, by decide +kernel⟩
set_option maxRecDepth 100000 in
theorem vmX11_seed : Val mX11_seed := ⟨gw_5 (i := 46) rfl rfl, by decide +kernel⟩
set_option maxRecDepth 100000 in
theorem vmX11_days : Val mX11_days := ⟨gw_5 (i := 50) rfl rfl, by decide +kernel⟩
set_option maxRecDepth 100000 in
theorem vmX11_free : Val mX11_free := ⟨gw_5 (i := 79) rfl rfl, by decide +kernel⟩
set_option maxRecDepth 100000 in
theorem vmX11_till : Val mX11_till := ⟨gw_5 (i := 84) rfl rfl, by decide +kernel⟩
set_option maxRecDepth 100000 in
theorem vmX11_swap : Val mX11_swap := ⟨gw_5 (i := 89) rfl rfl, by decide +kernel⟩
set_option maxRecDepth 100000 in
theorem vmX11_peak : Val mX11_peak := ⟨gw_5 (i := 97) rfl rfl, by decide +kernel⟩
set_option maxRecDepth 100000 in
theorem vmX11_wants : Val mX11_wants := ⟨gw_5 (i := 105) rfl rfl, by decide +kernel⟩
set_option maxRecDepth 100000 in
theorem vmX11_guests : Val mX11_guests := ⟨gw_5 (i := 113) rfl rfl, by decide +kernel⟩
set_option maxRecDepth 100000 in
theorem vmX11_twins : Val mX11_twins := ⟨gw_5 (i := 124) rfl rfl, by decide +kernel⟩
set_option maxRecDepth 100000 in
theorem vmX11_image : Val mX11_image := ⟨gw_5 (i := 129) rfl rfl, by decide +kernel⟩
set_option maxRecDepth 100000 in
theorem vmX11_back : Val mX11_back := ⟨gw_5 (i := 138) rfl rfl, by decide +kernel⟩
set_option maxRecDepth 100000 in
theorem vmX11_count : Val mX11_count := ⟨gw_5 (i := 142) rfl rfl, by decide +kernel⟩
set_option maxRecDepth 100000 in
theorem vmX11_stands : Val mX11_stands := ⟨gw_3 (i := 134) rfl rfl, by decide +kernel⟩
set_option maxRecDepth 100000 in
theorem vmX11_isPerson : Val mX11_isPerson := ⟨gw_3 (i := 150) rfl rfl, by decide +kernel⟩
set_option maxRecDepth 100000 in
theorem vmX11_isHouse : Val mX11_isHouse := ⟨gw_3 (i := 115) rfl rfl, by decide +kernel⟩
set_option maxRecDepth 100000 in
theorem vmX11_areTwo : Val mX11_areTwo := ⟨gw_3 (i := 146) rfl rfl, by decide +kernel⟩
set_option maxRecDepth 100000 in
theorem vmX11_isSmallParish : Val mX11_isSmallParish := ⟨gw_4 (i := 103) rfl rfl, by decide +kernel⟩
set_option maxRecDepth 100000 in
theorem vmX11_everybody : Val mX11_everybody := ⟨gw_4 (i := 77) rfl rfl, by decide +kernel⟩
set_option maxRecDepth 100000 in
theorem vmX11_isSpan : Val mX11_isSpan := ⟨gw_3 (i := 197) rfl rfl, by decide +kernel⟩
set_option maxRecDepth 100000 in
theorem vmX11_within : Val mX11_within := ⟨gw_2 (i := 228) rfl rfl, by decide +kernel⟩
set_option maxRecDepth 100000 in
theorem vmX11_dateOf : Val mX11_dateOf := ⟨gw_3 (i := 176) rfl rfl, by decide +kernel⟩
set_option maxRecDepth 100000 in
theorem vmX11_ageOn : Val mX11_ageOn := ⟨gw_3 (i := 164) rfl rfl, by decide +kernel⟩
set_option maxRecDepth 100000 in
theorem vmX11_bornOf : Val mX11_bornOf := ⟨gw_2 (i := 231) rfl rfl, by decide +kernel⟩
set_option maxRecDepth 100000 in
theorem vmX11_isSmaller : Val mX11_isSmaller := ⟨gw_4 (i := 92) rfl rfl, by decide +kernel⟩
set_option maxRecDepth 100000 in
theorem vmX11_isGreater : Val mX11_isGreater := ⟨gw_5 (i := 120) rfl rfl, by decide +kernel⟩
set_option maxRecDepth 100000 in
theorem vmX11_hasLowerOne : Val mX11_hasLowerOne := ⟨gw_4 (i := 95) rfl rfl, by decide +kernel⟩
set_option maxRecDepth 100000 in
theorem vmX11_pairBit : Val mX11_pairBit := ⟨gw_4 (i := 1) rfl rfl, by decide +kernel⟩
set_option maxRecDepth 100000 in
theorem vmX12_init : Val mX12_init := ⟨gw_5 (i := 223) rfl rfl, by decide +kernel⟩
set_option maxRecDepth 100000 in
theorem vmX12_thrown : Val mX12_thrown := ⟨gw_6 (i := 171) rfl rfl, by decide +kernel⟩
set_option maxRecDepth 100000 in
theorem vmX12_isIn : Val mX12_isIn := ⟨gw_6 (i := 193) rfl rfl, by decide +kernel⟩
set_option maxRecDepth 100000 in
theorem vmX12_has : Val mX12_has := ⟨gw_7 (i := 29) rfl rfl, by decide +kernel⟩
set_option maxRecDepth 100000 in
theorem vmX12_isAmong : Val mX12_isAmong := ⟨gw_7 (i := 57) rfl rfl, by decide +kernel⟩
set_option maxRecDepth 100000 in
theorem vmX12_bytesIn : Val mX12_bytesIn := ⟨gw_6 (i := 178) rfl rfl, by decide +kernel⟩
set_option maxRecDepth 100000 in
theorem vmX12_put : Val mX12_put := ⟨gw_6 (i := 182) rfl rfl, by decide +kernel⟩
set_option maxRecDepth 100000 in
theorem vmX12_feed : Val mX12_feed := ⟨gw_6 (i := 175) rfl rfl, by decide +kernel⟩
set_option maxRecDepth 100000 in
theorem vmX12_end : Val mX12_end := ⟨gw_6 (i := 186) rfl rfl, by decide +kernel⟩
set_option maxRecDepth 100000 in
theorem vmX12_look : Val mX12_look := ⟨gw_6 (i := 209) rfl rfl, by decide +kernel⟩
set_option maxRecDepth 100000 in
theorem vmX12_fails : Val mX12_fails := ⟨gw_6 (i := 213) rfl rfl, by decide +kernel⟩
set_option maxRecDepth 100000 in
theorem vmX12_goesIn : Val mX12_goesIn := ⟨gw_7 (i := 89) rfl rfl, by decide +kernel⟩
set_option maxRecDepth 100000 in
theorem vmX12_takes : Val mX12_takes := ⟨gw_7 (i := 61) rfl rfl, by decide +kernel⟩
set_option maxRecDepth 100000 in
theorem vmX12_isDigit : Val mX12_isDigit := ⟨gw_7 (i := 41) rfl rfl, by decide +kernel⟩
set_option maxRecDepth 100000 in
theorem vmX12_within : Val mX12_within := ⟨gw_7 (i := 92) rfl rfl, by decide +kernel⟩
set_option maxRecDepth 100000 in
theorem vmX12_atom : Val mX12_atom := ⟨gw_7 (i := 85) rfl rfl, by decide +kernel⟩
set_option maxRecDepth 100000 in
theorem vmX12_term : Val mX12_term := ⟨gw_7 (i := 81) rfl rfl, by decide +kernel⟩
set_option maxRecDepth 100000 in
theorem vmX12_sum : Val mX12_sum := ⟨gw_7 (i := 77) rfl rfl, by decide +kernel⟩
set_option maxRecDepth 100000 in
theorem vmX12_isSign : Val mX12_isSign := ⟨gw_7 (i := 103) rfl rfl, by decide +kernel⟩
set_option maxRecDepth 100000 in
theorem vmX12_compares : Val mX12_compares := ⟨gw_7 (i := 73) rfl rfl, by decide +kernel⟩
set_option maxRecDepth 100000 in
theorem vmX12_unit : Val mX12_unit := ⟨gw_7 (i := 107) rfl rfl, by decide +kernel⟩
set_option maxRecDepth 100000 in
theorem vmX12_part : Val mX12_part := ⟨gw_7 (i := 69) rfl rfl, by decide +kernel⟩
set_option maxRecDepth 100000 in
theorem vmX12_condition : Val mX12_condition := ⟨gw_7 (i := 65) rfl rfl, by decide +kernel⟩
set_option maxRecDepth 100000 in
theorem vmX12_clause : Val mX12_clause := ⟨gw_7 (i := 54) rfl rfl, by decide +kernel⟩
set_option maxRecDepth 100000 in
theorem vmX12_opens : Val mX12_opens := ⟨gw_6 (i := 201) rfl rfl, by decide +kernel⟩
set_option maxRecDepth 100000 in
theorem vmX12_goThrough : Val mX12_goThrough := ⟨gw_7 (i := 50) rfl rfl, by decide +kernel⟩
set_option maxRecDepth 100000 in
theorem vmX12_here : Val mX12_here := ⟨gw_7 (i := 45) rfl rfl, by decide +kernel⟩
set_option maxRecDepth 100000 in
theorem vmX12_number : Val mX12_number := ⟨gw_7 (i := 37) rfl rfl, by decide +kernel⟩
set_option maxRecDepth 100000 in
theorem vmX12_placeOf : Val mX12_placeOf := ⟨gw_6 (i := 218) rfl rfl, by decide +kernel⟩
set_option maxRecDepth 100000 in
theorem vmX12_readItem : Val mX12_readItem := ⟨gw_7 (i := 33) rfl rfl, by decide +kernel⟩
set_option maxRecDepth 100000 in
theorem vmX12_readClause : Val mX12_readClause := ⟨gw_6 (i := 205) rfl rfl, by decide +kernel⟩
set_option maxRecDepth 100000 in
theorem vmX12_readParish : Val mX12_readParish := ⟨gw_6 (i := 197) rfl rfl, by decide +kernel⟩
set_option maxRecDepth 100000 in
theorem vmX12_fault : Val mX12_fault := ⟨gw_6 (i := 190) rfl rfl, by decide +kernel⟩
set_option maxRecDepth 100000 in
theorem vmX12_text : Val mX12_text := ⟨gw_7 (i := 111) rfl rfl, by decide +kernel⟩
set_option maxRecDepth 100000 in
theorem vmX12_isPerson : Val mX12_isPerson := ⟨gw_7 (i := 120) rfl rfl, by decide +kernel⟩
set_option maxRecDepth 100000 in
theorem vmX12_isHouse : Val mX12_isHouse := ⟨gw_7 (i := 138) rfl rfl, by decide +kernel⟩
set_option maxRecDepth 100000 in
theorem vmX12_dateOf : Val mX12_dateOf := ⟨gw_7 (i := 129) rfl rfl, by decide +kernel⟩
set_option maxRecDepth 100000 in
theorem vmX12_age : Val mX12_age := ⟨gw_7 (i := 125) rfl rfl, by decide +kernel⟩
set_option maxRecDepth 100000 in
theorem vmX12_who : Val mX12_who := ⟨gw_7 (i := 142) rfl rfl, by decide +kernel⟩
set_option maxRecDepth 100000 in
theorem vmX12_person : Val mX12_person := ⟨gw_7 (i := 116) rfl rfl, by decide +kernel⟩
set_option maxRecDepth 100000 in
theorem vmX12_house : Val mX12_house := ⟨gw_7 (i := 134) rfl rfl, by decide +kernel⟩
set_option maxRecDepth 100000 in
theorem vmX12_law : Val mX12_law := ⟨gw_7 (i := 147) rfl rfl, by decide +kernel⟩
set_option maxRecDepth 100000 in
theorem vmX12_today : Val mX12_today := ⟨gw_7 (i := 151) rfl rfl, by decide +kernel⟩
set_option maxRecDepth 100000 in
theorem vmX12_doClash : Val mX12_doClash := ⟨gw_7 (i := 164) rfl rfl, by decide +kernel⟩
set_option maxRecDepth 100000 in
theorem vmX12_areTwo : Val mX12_areTwo := ⟨gw_7 (i := 160) rfl rfl, by decide +kernel⟩
set_option maxRecDepth 100000 in
theorem vmX12_clash : Val mX12_clash := ⟨gw_7 (i := 156) rfl rfl, by decide +kernel⟩
set_option maxRecDepth 100000 in
theorem vmX12_areDays : Val mX12_areDays := ⟨gw_7 (i := 172) rfl rfl, by decide +kernel⟩
set_option maxRecDepth 100000 in
theorem vmX12_clashesOf : Val mX12_clashesOf := ⟨gw_7 (i := 178) rfl rfl, by decide +kernel⟩
set_option maxRecDepth 100000 in
theorem vmX12_clashes : Val mX12_clashes := ⟨gw_7 (i := 169) rfl rfl, by decide +kernel⟩
set_option maxRecDepth 100000 in
theorem vmX12_move : Val mX12_move := ⟨gw_7 (i := 182) rfl rfl, by decide +kernel⟩
set_option maxRecDepth 100000 in
theorem vmX12_whyOf : Val mX12_whyOf := ⟨gw_7 (i := 191) rfl rfl, by decide +kernel⟩
set_option maxRecDepth 100000 in
theorem vmX12_judge : Val mX12_judge := ⟨gw_7 (i := 186) rfl rfl, by decide +kernel⟩
set_option maxRecDepth 100000 in
theorem vmX12_worst : Val mX12_worst := ⟨gw_7 (i := 195) rfl rfl, by decide +kernel⟩
set_option maxRecDepth 100000 in
theorem vmX12_layAgainst : Val mX12_layAgainst := ⟨gw_7 (i := 211) rfl rfl, by decide +kernel⟩
set_option maxRecDepth 100000 in
theorem vmX12_layToday : Val mX12_layToday := ⟨gw_7 (i := 207) rfl rfl, by decide +kernel⟩
set_option maxRecDepth 100000 in
theorem vmX12_parts : Val mX12_parts := ⟨gw_7 (i := 215) rfl rfl, by decide +kernel⟩
set_option maxRecDepth 100000 in
theorem vmX12_bound : Val mX12_bound := ⟨gw_7 (i := 203) rfl rfl, by decide +kernel⟩
set_option maxRecDepth 100000 in
theorem vmX12_fewest : Val mX12_fewest := ⟨gw_7 (i := 199) rfl rfl, by decide +kernel⟩
set_option maxRecDepth 100000 in
theorem vmX12_layLiving : Val mX12_layLiving := ⟨gw_7 (i := 235) rfl rfl, by decide +kernel⟩
set_option maxRecDepth 100000 in
theorem vmX12_livingMany : Val mX12_livingMany := ⟨gw_7 (i := 231) rfl rfl, by decide +kernel⟩
set_option maxRecDepth 100000 in
theorem vmX12_isLawful : Val mX12_isLawful := ⟨gw_7 (i := 239) rfl rfl, by decide +kernel⟩
set_option maxRecDepth 100000 in
theorem vmX12_everybody : Val mX12_everybody := ⟨gw_7 (i := 223) rfl rfl, by decide +kernel⟩
set_option maxRecDepth 100000 in
theorem vmX12_lastsFor : Val mX12_lastsFor := ⟨gw_7 (i := 227) rfl rfl, by decide +kernel⟩
set_option maxRecDepth 100000 in
theorem vmX12_lasts : Val mX12_lasts := ⟨gw_7 (i := 219) rfl rfl, by decide +kernel⟩
set_option maxRecDepth 100000 in
theorem vmX12_isBefore : Val mX12_isBefore := ⟨gw_8 (i := 6) rfl rfl, by decide +kernel⟩
set_option maxRecDepth 100000 in
theorem vmX12_bars : Val mX12_bars := ⟨gw_8 (i := 3) rfl rfl, by decide +kernel⟩
set_option maxRecDepth 100000 in
theorem vmX12_areFew : Val mX12_areFew := ⟨gw_8 (i := 14) rfl rfl, by decide +kernel⟩
set_option maxRecDepth 100000 in
theorem vmX12_layGood : Val mX12_layGood := ⟨gw_8 (i := 18) rfl rfl, by decide +kernel⟩
set_option maxRecDepth 100000 in
theorem vmX12_unlike : Val mX12_unlike := ⟨gw_8 (i := 23) rfl rfl, by decide +kernel⟩
set_option maxRecDepth 100000 in
theorem vmX12_moves : Val mX12_moves := ⟨gw_8 (i := 10) rfl rfl, by decide +kernel⟩
set_option maxRecDepth 100000 in
theorem vmX12_placeFour : Val mX12_placeFour := ⟨gw_8 (i := 32) rfl rfl, by decide +kernel⟩
set_option maxRecDepth 100000 in
theorem vmX12_night : Val mX12_night := ⟨gw_8 (i := 28) rfl rfl, by decide +kernel⟩
set_option maxRecDepth 100000 in
theorem vmX12_mayLodge : Val mX12_mayLodge := ⟨gw_8 (i := 41) rfl rfl, by decide +kernel⟩
set_option maxRecDepth 100000 in
theorem vmX12_lodger : Val mX12_lodger := ⟨gw_8 (i := 36) rfl rfl, by decide +kernel⟩
set_option maxRecDepth 100000 in
theorem vmX12_say : Val mX12_say := ⟨gw_8 (i := 45) rfl rfl, by decide +kernel⟩
set_option maxRecDepth 100000 in
theorem vmX12_known : Val mX12_known := ⟨gw_8 (i := 49) rfl rfl, by decide +kernel⟩
set_option maxRecDepth 100000 in
theorem vmX12_worth : Val mX12_worth := ⟨gw_8 (i := 53) rfl rfl, by decide +kernel⟩
set_option maxRecDepth 100000 in
theorem vmX12_gainIn : Val mX12_gainIn := ⟨gw_8 (i := 65) rfl rfl, by decide +kernel⟩
set_option maxRecDepth 100000 in
theorem vmX12_mayLive : Val mX12_mayLive := ⟨gw_8 (i := 69) rfl rfl, by decide +kernel⟩
set_option maxRecDepth 100000 in
theorem vmX12_ratherOf : Val mX12_ratherOf := ⟨gw_8 (i := 61) rfl rfl, by decide +kernel⟩
set_option maxRecDepth 100000 in
theorem vmX12_rather : Val mX12_rather := ⟨gw_8 (i := 57) rfl rfl, by decide +kernel⟩
set_option maxRecDepth 100000 in
theorem vmX12_turn : Val mX12_turn := ⟨gw_8 (i := 73) rfl rfl, by decide +kernel⟩
set_option maxRecDepth 100000 in
theorem vmX12_goBest : Val mX12_goBest := ⟨gw_8 (i := 81) rfl rfl, by decide +kernel⟩
set_option maxRecDepth 100000 in
theorem vmX12_best : Val mX12_best := ⟨gw_8 (i := 77) rfl rfl, by decide +kernel⟩
set_option maxRecDepth 100000 in
theorem vmX12_risk : Val mX12_risk := ⟨gw_8 (i := 85) rfl rfl, by decide +kernel⟩
set_option maxRecDepth 100000 in
theorem vmX12_seed : Val mX12_seed := ⟨gw_8 (i := 90) rfl rfl, by decide +kernel⟩
set_option maxRecDepth 100000 in
theorem vmX12_isBothered : Val mX12_isBothered := ⟨gw_8 (i := 102) rfl rfl, by decide +kernel⟩
set_option maxRecDepth 100000 in
theorem vmX12_lowestFor : Val mX12_lowestFor := ⟨gw_8 (i := 106) rfl rfl, by decide +kernel⟩
set_option maxRecDepth 100000 in
theorem vmX12_dayGoesOn : Val mX12_dayGoesOn := ⟨gw_8 (i := 98) rfl rfl, by decide +kernel⟩
set_option maxRecDepth 100000 in
theorem vmX12_days : Val mX12_days := ⟨gw_8 (i := 94) rfl rfl, by decide +kernel⟩
set_option maxRecDepth 100000 in
theorem vmX12_couldLive : Val mX12_couldLive := ⟨gw_8 (i := 116) rfl rfl, by decide +kernel⟩
set_option maxRecDepth 100000 in
theorem vmX12_free : Val mX12_free := ⟨gw_8 (i := 112) rfl rfl, by decide +kernel⟩
set_option maxRecDepth 100000 in
theorem vmX12_till : Val mX12_till := ⟨gw_8 (i := 120) rfl rfl, by decide +kernel⟩
set_option maxRecDepth 100000 in
theorem vmX12_couldSwap : Val mX12_couldSwap := ⟨gw_8 (i := 128) rfl rfl, by decide +kernel⟩
set_option maxRecDepth 100000 in
theorem vmX12_swap : Val mX12_swap := ⟨gw_8 (i := 124) rfl rfl, by decide +kernel⟩
set_option maxRecDepth 100000 in
theorem vmX12_peak : Val mX12_peak := ⟨gw_8 (i := 132) rfl rfl, by decide +kernel⟩
set_option maxRecDepth 100000 in
theorem vmX12_partsOf : Val mX12_partsOf := ⟨gw_8 (i := 141) rfl rfl, by decide +kernel⟩
set_option maxRecDepth 100000 in
theorem vmX12_wants : Val mX12_wants := ⟨gw_8 (i := 136) rfl rfl, by decide +kernel⟩
set_option maxRecDepth 100000 in
theorem vmX12_guests : Val mX12_guests := ⟨gw_8 (i := 145) rfl rfl, by decide +kernel⟩
set_option maxRecDepth 100000 in
theorem vmX12_twins : Val mX12_twins := ⟨gw_8 (i := 149) rfl rfl, by decide +kernel⟩
set_option maxRecDepth 100000 in
theorem vmX12_image : Val mX12_image := ⟨gw_8 (i := 153) rfl rfl, by decide +kernel⟩
set_option maxRecDepth 100000 in
theorem vmX12_back : Val mX12_back := ⟨gw_8 (i := 157) rfl rfl, by decide +kernel⟩
set_option maxRecDepth 100000 in
theorem vmX12_count : Val mX12_count := ⟨gw_8 (i := 161) rfl rfl, by decide +kernel⟩
set_option maxRecDepth 100000 in
theorem vmJ6_bitCount_0f7a4 : Val mJ6_bitCount_0f7a4 := ⟨gw_3 (i := 123) rfl rfl, by decide +kernel⟩
set_option maxRecDepth 100000 in
theorem vmJ9_floorDiv_7cf53 : Val mJ9_floorDiv_7cf53 := ⟨gw_3 (i := 167) rfl rfl, by decide +kernel⟩
set_option maxRecDepth 100000 in
theorem vmJ9_floorMod_7cf53 : Val mJ9_floorMod_7cf53 := ⟨gw_3 (i := 179) rfl rfl, by decide +kernel⟩
set_option maxRecDepth 100000 in
theorem vmJ9_abs_0f7a4 : Val mJ9_abs_0f7a4 := ⟨gw_3 (i := 173) rfl rfl, by decide +kernel⟩
set_option maxRecDepth 100000 in
theorem vmJ9_max_7cf53 : Val mJ9_max_7cf53 := ⟨gw_3 (i := 170) rfl rfl, by decide +kernel⟩
set_option maxRecDepth 100000 in
theorem vmJ9_max_f86c9 : Val mJ9_max_f86c9 := ⟨gw_7 (i := 100) rfl rfl, by decide +kernel⟩
set_option maxRecDepth 100000 in
theorem vmJ9_min_7cf53 : Val mJ9_min_7cf53 := ⟨gw_3 (i := 161) rfl rfl, by decide +kernel⟩
set_option maxRecDepth 100000 in
theorem vmJ9_min_f86c9 : Val mJ9_min_f86c9 := ⟨gw_7 (i := 97) rfl rfl, by decide +kernel⟩
set_option maxRecDepth 20000 in
theorem axMv_0 : ∀ q ∈ axMt 0, Val q.2.1 := List.forall_mem_cons.mpr ⟨vmJ9_max_7cf53, fun _ h => absurd h List.not_mem_nil⟩
set_option maxRecDepth 20000 in
theorem axMv_1 : ∀ q ∈ axMt 1, Val q.2.1 := List.forall_mem_cons.mpr ⟨vmX1_partsHold, List.forall_mem_cons.mpr ⟨vmX1_prepare, List.forall_mem_cons.mpr ⟨vmJ9_min_7cf53, List.forall_mem_cons.mpr ⟨vmX5_foesOf, List.forall_mem_cons.mpr ⟨vmX1_place, List.forall_mem_cons.mpr ⟨vmX1_takes, List.forall_mem_cons.mpr ⟨vmJ6_bitCount_0f7a4, List.forall_mem_cons.mpr ⟨vmX1_prepareTold, List.forall_mem_cons.mpr ⟨vmX6_gainOf, List.forall_mem_cons.mpr ⟨vmX1_seek, fun _ h => absurd h List.not_mem_nil⟩⟩⟩⟩⟩⟩⟩⟩⟩⟩
set_option maxRecDepth 20000 in
theorem axMv_2 : ∀ q ∈ axMt 2, Val q.2.1 := List.forall_mem_cons.mpr ⟨vmX8_init, List.forall_mem_cons.mpr ⟨vmX8_clear, List.forall_mem_cons.mpr ⟨vmX10_rewind, List.forall_mem_cons.mpr ⟨vmX2_readClause, List.forall_mem_cons.mpr ⟨vmX10_pass, List.forall_mem_cons.mpr ⟨vmX10_ahead, List.forall_mem_cons.mpr ⟨vmX2_condition, List.forall_mem_cons.mpr ⟨vmX2_truth, List.forall_mem_cons.mpr ⟨vmX2_unit, List.forall_mem_cons.mpr ⟨vmX2_sum, List.forall_mem_cons.mpr ⟨vmX2_term, List.forall_mem_cons.mpr ⟨vmX2_atom, List.forall_mem_cons.mpr ⟨vmX10_fail, List.forall_mem_cons.mpr ⟨vmX10_step, List.forall_mem_cons.mpr ⟨vmX8_letter, List.forall_mem_cons.mpr ⟨vmX8_add, List.forall_mem_cons.mpr ⟨vmX10_number, List.forall_mem_cons.mpr ⟨vmX2_relation, List.forall_mem_cons.mpr ⟨vmX8_relation, List.forall_mem_cons.mpr ⟨vmX2_moreUnits, List.forall_mem_cons.mpr ⟨vmX2_moreTruths, List.forall_mem_cons.mpr ⟨vmX2_guarded, List.forall_mem_cons.mpr ⟨vmX8_addBranch, List.forall_mem_cons.mpr ⟨vmX8_landHere, List.forall_mem_cons.mpr ⟨vmX10_ended, fun _ h => absurd h List.not_mem_nil⟩⟩⟩⟩⟩⟩⟩⟩⟩⟩⟩⟩⟩⟩⟩⟩⟩⟩⟩⟩⟩⟩⟩⟩⟩
set_option maxRecDepth 20000 in
theorem axMv_3 : ∀ q ∈ axMt 3, Val q.2.1 := List.forall_mem_cons.mpr ⟨vmX8_init, List.forall_mem_cons.mpr ⟨vmX8_copy, List.forall_mem_cons.mpr ⟨vmJ9_min_7cf53, List.forall_mem_cons.mpr ⟨vmJ9_max_7cf53, List.forall_mem_cons.mpr ⟨vmJ9_abs_0f7a4, List.forall_mem_cons.mpr ⟨vmX8_worthFor, List.forall_mem_cons.mpr ⟨vmX3_daysTillBirthday, List.forall_mem_cons.mpr ⟨vmJ9_floorMod_7cf53, List.forall_mem_cons.mpr ⟨vmX11_ageOn, List.forall_mem_cons.mpr ⟨vmX11_dateOf, fun _ h => absurd h List.not_mem_nil⟩⟩⟩⟩⟩⟩⟩⟩⟩⟩
set_option maxRecDepth 20000 in
theorem axMv_4 : ∀ q ∈ axMt 4, Val q.2.1 := List.forall_mem_cons.mpr ⟨vmJ9_min_7cf53, List.forall_mem_cons.mpr ⟨vmX4_matesIn, List.forall_mem_cons.mpr ⟨vmX4_homeIn, List.forall_mem_cons.mpr ⟨vmX4_hasRooms, List.forall_mem_cons.mpr ⟨vmX4_movesInto, List.forall_mem_cons.mpr ⟨vmX4_shut, List.forall_mem_cons.mpr ⟨vmX4_isLawful, List.forall_mem_cons.mpr ⟨vmX4_spread, List.forall_mem_cons.mpr ⟨vmX4_spreadFor, List.forall_mem_cons.mpr ⟨vmX4_stateWith, List.forall_mem_cons.mpr ⟨vmJ9_max_7cf53, List.forall_mem_cons.mpr ⟨vmX4_measure, List.forall_mem_cons.mpr ⟨vmX4_measureFrom, List.forall_mem_cons.mpr ⟨vmX4_stepTowards, List.forall_mem_cons.mpr ⟨vmX11_pairBit, fun _ h => absurd h List.not_mem_nil⟩⟩⟩⟩⟩⟩⟩⟩⟩⟩⟩⟩⟩⟩⟩
set_option maxRecDepth 20000 in
theorem axMv_5 : ∀ q ∈ axMt 5, Val q.2.1 := List.forall_mem_cons.mpr ⟨vmJ9_min_7cf53, List.forall_mem_cons.mpr ⟨vmX5_lookAtPair, List.forall_mem_cons.mpr ⟨vmX6_steadyFrom, List.forall_mem_cons.mpr ⟨vmJ9_max_7cf53, List.forall_mem_cons.mpr ⟨vmX6_atOdds, List.forall_mem_cons.mpr ⟨vmX6_dwellers, List.forall_mem_cons.mpr ⟨vmX5_pairsOf, List.forall_mem_cons.mpr ⟨vmJ6_bitCount_0f7a4, List.forall_mem_cons.mpr ⟨vmX5_atOddsWithin, List.forall_mem_cons.mpr ⟨vmX5_allAtOddsOnce, List.forall_mem_cons.mpr ⟨vmX11_pairBit, fun _ h => absurd h List.not_mem_nil⟩⟩⟩⟩⟩⟩⟩⟩⟩⟩⟩
set_option maxRecDepth 20000 in
theorem axMv_6 : ∀ q ∈ axMt 6, Val q.2.1 := List.forall_mem_cons.mpr ⟨vmX3_init, List.forall_mem_cons.mpr ⟨vmX9_init, List.forall_mem_cons.mpr ⟨vmX3_forbid, List.forall_mem_cons.mpr ⟨vmX6_steadyFrom, List.forall_mem_cons.mpr ⟨vmX3_steadyDays, List.forall_mem_cons.mpr ⟨vmJ9_max_7cf53, List.forall_mem_cons.mpr ⟨vmX6_atOdds, List.forall_mem_cons.mpr ⟨vmJ9_min_7cf53, List.forall_mem_cons.mpr ⟨vmX6_dwellers, List.forall_mem_cons.mpr ⟨vmJ6_bitCount_0f7a4, List.forall_mem_cons.mpr ⟨vmX6_daysOfPeace, List.forall_mem_cons.mpr ⟨vmX6_gainOf, List.forall_mem_cons.mpr ⟨vmX6_mayLive, List.forall_mem_cons.mpr ⟨vmX6_wishOf, List.forall_mem_cons.mpr ⟨vmX6_peaceAtHome, List.forall_mem_cons.mpr ⟨vmX6_underOneRoof, List.forall_mem_cons.mpr ⟨vmX6_lowestOpen, List.forall_mem_cons.mpr ⟨vmX6_shift, List.forall_mem_cons.mpr ⟨vmX6_drawDeaths, List.forall_mem_cons.mpr ⟨vmX11_dateOf, fun _ h => absurd h List.not_mem_nil⟩⟩⟩⟩⟩⟩⟩⟩⟩⟩⟩⟩⟩⟩⟩⟩⟩⟩⟩⟩
set_option maxRecDepth 20000 in
theorem axMv_7 : ∀ q ∈ axMt 7, Val q.2.1 := List.forall_mem_cons.mpr ⟨vmX10_rewind, List.forall_mem_cons.mpr ⟨vmX7_readClause, List.forall_mem_cons.mpr ⟨vmX10_ahead, List.forall_mem_cons.mpr ⟨vmX10_step, List.forall_mem_cons.mpr ⟨vmX7_readPerson, List.forall_mem_cons.mpr ⟨vmX7_readItems, List.forall_mem_cons.mpr ⟨vmX7_kindOf, List.forall_mem_cons.mpr ⟨vmX10_numberWithin, List.forall_mem_cons.mpr ⟨vmX7_readHouse, List.forall_mem_cons.mpr ⟨vmX10_fail, List.forall_mem_cons.mpr ⟨vmX10_ended, List.forall_mem_cons.mpr ⟨vmX7_isWhole, List.forall_mem_cons.mpr ⟨vmX10_pass, List.forall_mem_cons.mpr ⟨vmX11_bornOf, fun _ h => absurd h List.not_mem_nil⟩⟩⟩⟩⟩⟩⟩⟩⟩⟩⟩⟩⟩⟩
set_option maxRecDepth 20000 in
theorem axMv_8 : ∀ q ∈ axMt 8, Val q.2.1 := List.forall_mem_cons.mpr ⟨vmX8_add, List.forall_mem_cons.mpr ⟨vmX8_join, fun _ h => absurd h List.not_mem_nil⟩⟩
set_option maxRecDepth 20000 in
theorem axMv_9 : ∀ q ∈ axMt 9, Val q.2.1 := fun _ h => absurd h List.not_mem_nil
set_option maxRecDepth 20000 in
theorem axMv_10 : ∀ q ∈ axMt 10, Val q.2.1 := List.forall_mem_cons.mpr ⟨vmX10_signsIn, List.forall_mem_cons.mpr ⟨vmX10_put, List.forall_mem_cons.mpr ⟨vmX10_number, List.forall_mem_cons.mpr ⟨vmX10_ahead, List.forall_mem_cons.mpr ⟨vmX10_here, List.forall_mem_cons.mpr ⟨vmX10_isDigit, List.forall_mem_cons.mpr ⟨vmX10_fail, List.forall_mem_cons.mpr ⟨vmX10_step, List.forall_mem_cons.mpr ⟨vmX11_within, fun _ h => absurd h List.not_mem_nil⟩⟩⟩⟩⟩⟩⟩⟩⟩
set_option maxRecDepth 20000 in
theorem axMv_11 : ∀ q ∈ axMt 11, Val q.2.1 := List.forall_mem_cons.mpr ⟨vmX10_init, List.forall_mem_cons.mpr ⟨vmX7_init, List.forall_mem_cons.mpr ⟨vmX2_init, List.forall_mem_cons.mpr ⟨vmX6_init, List.forall_mem_cons.mpr ⟨vmX5_init, List.forall_mem_cons.mpr ⟨vmX1_init, List.forall_mem_cons.mpr ⟨vmX4_init, List.forall_mem_cons.mpr ⟨vmX0_init, List.forall_mem_cons.mpr ⟨vmX10_add, List.forall_mem_cons.mpr ⟨vmX10_cut, List.forall_mem_cons.mpr ⟨vmX7_reads, List.forall_mem_cons.mpr ⟨vmX2_reads, List.forall_mem_cons.mpr ⟨vmX6_settle, List.forall_mem_cons.mpr ⟨vmX3_keep, List.forall_mem_cons.mpr ⟨vmX11_isHouse, List.forall_mem_cons.mpr ⟨vmX11_within, List.forall_mem_cons.mpr ⟨vmX6_dwellers, List.forall_mem_cons.mpr ⟨vmJ6_bitCount_0f7a4, List.forall_mem_cons.mpr ⟨vmX11_stands, List.forall_mem_cons.mpr ⟨vmX11_areTwo, List.forall_mem_cons.mpr ⟨vmX11_isPerson, List.forall_mem_cons.mpr ⟨vmX6_atOdds, List.forall_mem_cons.mpr ⟨vmJ9_floorDiv_7cf53, List.forall_mem_cons.mpr ⟨vmJ9_floorMod_7cf53, List.forall_mem_cons.mpr ⟨vmX11_isSpan, List.forall_mem_cons.mpr ⟨vmX6_daysAtOdds, List.forall_mem_cons.mpr ⟨vmX6_daysOfPeace, List.forall_mem_cons.mpr ⟨vmX5_look, List.forall_mem_cons.mpr ⟨vmX5_firstUnlawful, List.forall_mem_cons.mpr ⟨vmX5_unlawfulHouse, List.forall_mem_cons.mpr ⟨vmX5_atOddsWithin, List.forall_mem_cons.mpr ⟨vmX6_underOneRoof, List.forall_mem_cons.mpr ⟨vmX1_fewestParts, List.forall_mem_cons.mpr ⟨vmX5_greatestQuarrel, List.forall_mem_cons.mpr ⟨vmX11_everybody, List.forall_mem_cons.mpr ⟨vmX1_lowestLiving, List.forall_mem_cons.mpr ⟨vmX11_isSmaller, List.forall_mem_cons.mpr ⟨vmX11_hasLowerOne, List.forall_mem_cons.mpr ⟨vmX11_isSmallParish, List.forall_mem_cons.mpr ⟨vmX4_lay, List.forall_mem_cons.mpr ⟨vmX4_fewestMoves, List.forall_mem_cons.mpr ⟨vmX6_homeless, List.forall_mem_cons.mpr ⟨vmX4_stateOf, List.forall_mem_cons.mpr ⟨vmX4_stateTold, List.forall_mem_cons.mpr ⟨vmX4_stepsBetween, List.forall_mem_cons.mpr ⟨vmX4_stepOfRow, List.forall_mem_cons.mpr ⟨vmX11_bornOf, List.forall_mem_cons.mpr ⟨vmX6_bearsLodger, List.forall_mem_cons.mpr ⟨vmX0_mark, List.forall_mem_cons.mpr ⟨vmX0_many, List.forall_mem_cons.mpr ⟨vmX0_least, List.forall_mem_cons.mpr ⟨vmX0_longestRow, List.forall_mem_cons.mpr ⟨vmX6_remember, List.forall_mem_cons.mpr ⟨vmX6_agreesWithSaid, List.forall_mem_cons.mpr ⟨vmX0_greatest, List.forall_mem_cons.mpr ⟨vmX6_wishOf, List.forall_mem_cons.mpr ⟨vmX6_takeTurns, List.forall_mem_cons.mpr ⟨vmX1_seekBest, List.forall_mem_cons.mpr ⟨vmX6_goOn, List.forall_mem_cons.mpr ⟨vmX6_mayLive, List.forall_mem_cons.mpr ⟨vmX6_peaceAtHome, List.forall_mem_cons.mpr ⟨vmX6_mayChange, List.forall_mem_cons.mpr ⟨vmX5_busiest, List.forall_mem_cons.mpr ⟨vmX1_leastRooms, List.forall_mem_cons.mpr ⟨vmX5_everAtOdds, List.forall_mem_cons.mpr ⟨vmX11_isGreater, List.forall_mem_cons.mpr ⟨vmJ9_abs_0f7a4, List.forall_mem_cons.mpr ⟨vmX9_copy, List.forall_mem_cons.mpr ⟨vmX11_ageOn, List.forall_mem_cons.mpr ⟨vmX11_dateOf, fun _ h => absurd h List.not_mem_nil⟩⟩⟩⟩⟩⟩⟩⟩⟩⟩⟩⟩⟩⟩⟩⟩⟩⟩⟩⟩⟩⟩⟩⟩⟩⟩⟩⟩⟩⟩⟩⟩⟩⟩⟩⟩⟩⟩⟩⟩⟩⟩⟩⟩⟩⟩⟩⟩⟩⟩⟩⟩⟩⟩⟩⟩⟩⟩⟩⟩⟩⟩⟩⟩⟩⟩⟩⟩⟩⟩
set_option maxRecDepth 20000 in
theorem axMv_12 : ∀ q ∈ axMt 12, Val q.2.1 := List.forall_mem_cons.mpr ⟨vmX12_bytesIn, List.forall_mem_cons.mpr ⟨vmX12_put, List.forall_mem_cons.mpr ⟨vmX12_isIn, List.forall_mem_cons.mpr ⟨vmX12_readParish, List.forall_mem_cons.mpr ⟨vmX12_opens, List.forall_mem_cons.mpr ⟨vmX12_readClause, List.forall_mem_cons.mpr ⟨vmX12_look, List.forall_mem_cons.mpr ⟨vmX12_fails, List.forall_mem_cons.mpr ⟨vmX12_placeOf, List.forall_mem_cons.mpr ⟨vmX12_has, List.forall_mem_cons.mpr ⟨vmX12_readItem, List.forall_mem_cons.mpr ⟨vmX12_number, List.forall_mem_cons.mpr ⟨vmX12_isDigit, List.forall_mem_cons.mpr ⟨vmX12_here, List.forall_mem_cons.mpr ⟨vmJ9_max_7cf53, List.forall_mem_cons.mpr ⟨vmX12_goThrough, List.forall_mem_cons.mpr ⟨vmX12_clause, List.forall_mem_cons.mpr ⟨vmX12_isAmong, List.forall_mem_cons.mpr ⟨vmX12_takes, List.forall_mem_cons.mpr ⟨vmX12_condition, List.forall_mem_cons.mpr ⟨vmX12_part, List.forall_mem_cons.mpr ⟨vmX12_compares, List.forall_mem_cons.mpr ⟨vmX12_sum, List.forall_mem_cons.mpr ⟨vmX12_term, List.forall_mem_cons.mpr ⟨vmX12_atom, List.forall_mem_cons.mpr ⟨vmX12_goesIn, List.forall_mem_cons.mpr ⟨vmX12_within, List.forall_mem_cons.mpr ⟨vmJ9_min_f86c9, List.forall_mem_cons.mpr ⟨vmJ9_max_f86c9, List.forall_mem_cons.mpr ⟨vmX12_isSign, List.forall_mem_cons.mpr ⟨vmX12_unit, List.forall_mem_cons.mpr ⟨vmX12_fault, List.forall_mem_cons.mpr ⟨vmX12_isPerson, List.forall_mem_cons.mpr ⟨vmX12_age, List.forall_mem_cons.mpr ⟨vmJ9_floorDiv_7cf53, List.forall_mem_cons.mpr ⟨vmX12_dateOf, List.forall_mem_cons.mpr ⟨vmJ9_floorMod_7cf53, List.forall_mem_cons.mpr ⟨vmX12_isHouse, List.forall_mem_cons.mpr ⟨vmX12_who, List.forall_mem_cons.mpr ⟨vmJ6_bitCount_0f7a4, List.forall_mem_cons.mpr ⟨vmX12_areTwo, List.forall_mem_cons.mpr ⟨vmX12_doClash, List.forall_mem_cons.mpr ⟨vmJ9_abs_0f7a4, List.forall_mem_cons.mpr ⟨vmX12_areDays, List.forall_mem_cons.mpr ⟨vmX12_clashesOf, List.forall_mem_cons.mpr ⟨vmX12_whyOf, List.forall_mem_cons.mpr ⟨vmX12_bound, List.forall_mem_cons.mpr ⟨vmX12_layToday, List.forall_mem_cons.mpr ⟨vmX12_layAgainst, List.forall_mem_cons.mpr ⟨vmX12_parts, List.forall_mem_cons.mpr ⟨vmX12_everybody, List.forall_mem_cons.mpr ⟨vmX12_lastsFor, List.forall_mem_cons.mpr ⟨vmX12_livingMany, List.forall_mem_cons.mpr ⟨vmX12_layLiving, List.forall_mem_cons.mpr ⟨vmX12_isLawful, List.forall_mem_cons.mpr ⟨vmX12_isBefore, List.forall_mem_cons.mpr ⟨vmX12_areFew, List.forall_mem_cons.mpr ⟨vmX12_layGood, List.forall_mem_cons.mpr ⟨vmX12_unlike, List.forall_mem_cons.mpr ⟨vmJ9_min_7cf53, List.forall_mem_cons.mpr ⟨vmX12_placeFour, List.forall_mem_cons.mpr ⟨vmX12_mayLodge, List.forall_mem_cons.mpr ⟨vmX12_ratherOf, List.forall_mem_cons.mpr ⟨vmX12_gainIn, List.forall_mem_cons.mpr ⟨vmX12_mayLive, List.forall_mem_cons.mpr ⟨vmX12_goBest, List.forall_mem_cons.mpr ⟨vmX12_dayGoesOn, List.forall_mem_cons.mpr ⟨vmX12_isBothered, List.forall_mem_cons.mpr ⟨vmX12_lowestFor, List.forall_mem_cons.mpr ⟨vmX12_couldLive, List.forall_mem_cons.mpr ⟨vmX12_couldSwap, List.forall_mem_cons.mpr ⟨vmX12_partsOf, fun _ h => absurd h List.not_mem_nil⟩⟩⟩⟩⟩⟩⟩⟩⟩⟩⟩⟩⟩⟩⟩⟩⟩⟩⟩⟩⟩⟩⟩⟩⟩⟩⟩⟩⟩⟩⟩⟩⟩⟩⟩⟩⟩⟩⟩⟩⟩⟩⟩⟩⟩⟩⟩⟩⟩⟩⟩⟩⟩⟩⟩⟩⟩⟩⟩⟩⟩⟩⟩⟩⟩⟩⟩⟩⟩⟩⟩⟩
theorem axM_val (c : Nat) (q : Nat × MEnt × Nat × List Nat) (h : q ∈ axMt c) : Val q.2.1 := by
  revert q
  match c with
  | 0 => exact axMv_0
  | 1 => exact axMv_1
  | 2 => exact axMv_2
  | 3 => exact axMv_3
  | 4 => exact axMv_4
  | 5 => exact axMv_5
  | 6 => exact axMv_6
  | 7 => exact axMv_7
  | 8 => exact axMv_8
  | 9 => exact axMv_9
  | 10 => exact axMv_10
  | 11 => exact axMv_11
  | 12 => exact axMv_12
  | n + 13 => intro q h; cases h
