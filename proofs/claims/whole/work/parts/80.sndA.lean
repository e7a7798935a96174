-- from the abstract machine to the claim's machine: values, cells, locals
def cV (ad : Nat → Nat) (v : AV) : Value := match v with
  | .inl n => .int (Int32.ofInt n)
  | .inr (.inl n) => .long (Int64.ofInt n)
  | .inr (.inr none) => .null
  | .inr (.inr (some k)) => .ref (ad k)
def pV (ty : FieldType) (n : Int) : Value := if isJ ty = true then .long (Int64.ofInt n) else .int (Int32.ofInt n)
def fV (ad : Nat → Nat) (ci : Nat) (z : Int → Int) (j : Nat) (f : Option (Option Nat)) : Value := match f with
  | none => pV (axTy ci j) (z j)
  | some r => cV ad (.inr (.inr r))
def cE (ad : Nat → Nat) (cA : FieldType → ClassId) (z : Int → Int) (q : Kd) : va_E := match q with
  | .inl (ci, fs) => .inr (ci, fs.mapIdx (fun j f => fV ad ci z j f))
  | .inr (.inl (ty, n)) => .inl (cA ty, n, .inl (fun j : Nat => Int32.ofInt (z j)))
  | .inr (.inr l) => .inl (cA (.object RX8), l.length, .inr (.inr (.inr (.inr (fun j => (l.getD j none).map ad)))))
def wl (ad : Nat → Nat) (cA : FieldType → ClassId) (sh : List Kd) (σ : Sto) : va_W := sh.mapIdx (fun k q => (ad k, cE ad cA (σ k) q))
def axtys (cA : FieldType → ClassId) : List (ClassId × FieldType) := [(cA .int, .int), (cA .byte, .byte), (cA .boolean, .boolean), (cA (.object RX8), .object RX8)]
/-- numbers within their types -/
def r32 (n : Int) : Prop := -2147483648 ≤ n ∧ n ≤ 2147483647
def r64 (n : Int) : Prop := -9223372036854775808 ≤ n ∧ n ≤ 9223372036854775807
def rOK (n : Nat) (r : Option Nat) : Prop := ∀ k, r = some k → k < n ∨ 1000 ≤ k
def vOK (n : Nat) (v : AV) : Prop := match v with
  | .inl x => r32 x
  | .inr (.inl x) => r64 x
  | .inr (.inr r) => rOK n r
def tOK (ty : FieldType) (n : Int) : Prop := match ty with
  | .int => r32 n
  | .long => r64 n
  | .byte => -128 ≤ n ∧ n ≤ 127
  | .boolean => n = 0 ∨ n = 1
  | _ => False
def kOK (n : Nat) (z : Int → Int) (q : Kd) : Prop := match q with
  | .inl (ci, fs) => (∀ j : Nat, fs[j]? = some none → tOK (axTy ci j) (z j)) ∧ ∀ (j : Nat) (r : Option Nat), fs[j]? = some (some r) → rOK n r
  | .inr (.inl (ty, m)) => ∀ j : Nat, j < m → tOK ty (z j)
  | .inr (.inr l) => ∀ (j : Nat) (r : Option Nat), l[j]? = some r → rOK n r
def sOK (sh : List Kd) (σ : Sto) : Prop := ∀ (k : Nat) (q : Kd), sh[k]? = some q → kOK sh.length (σ k) q
def lOK (n : Nat) (ls : Lcs) : Prop := ∀ v, some v ∈ ls → vOK n v
/-- addresses of cells below n, and of what lies outside, are the same -/
def Ag (n : Nat) (ad ad' : Nat → Nat) : Prop := ∀ k, k < n ∨ 1000 ≤ k → ad' k = ad k
/-- the locals that are set, by their numbers -/
def loc (ad : Nat → Nat) : Nat → Lcs → List (Nat × Value)
  | _, [] => []
  | i, none :: r => loc ad (i + 1) r
  | i, some v :: r => (i, cV ad v) :: loc ad (i + 1) r
theorem wl_len (ad : Nat → Nat) (cA : FieldType → ClassId) (sh : List Kd) (σ : Sto) : (wl ad cA sh σ).length = sh.length := by simp [wl]
theorem wl_get (ad : Nat → Nat) (cA : FieldType → ClassId) (sh : List Kd) (σ : Sto) (k : Nat) : (wl ad cA sh σ)[k]? = sh[k]?.map (fun q => (ad k, cE ad cA (σ k) q)) := by simp [wl]
theorem wl_at {ad : Nat → Nat} {cA : FieldType → ClassId} {sh : List Kd} {σ : Sto} {k : Nat} {q : Kd} (h : sh[k]? = some q) : (wl ad cA sh σ)[k]? = some (ad k, cE ad cA (σ k) q) := by rw [wl_get, h]; rfl
/-- one cell is another: the list is so at that place alone -/
theorem wl_set {ad : Nat → Nat} {cA : FieldType → ClassId} {sh sh' : List Kd} {σ σ' : Sto} {k : Nat} {q : Kd} (hk : k < sh.length) (hl : sh'.length = sh.length) (hq : sh'[k]? = some q) (ho : ∀ j, j ≠ k → sh'[j]? = sh[j]?) (hs : ∀ j, j ≠ k → σ' j = σ j) : (wl ad cA sh σ).set k (ad k, cE ad cA (σ' k) q) = wl ad cA sh' σ' := by
  apply List.ext_getElem?
  intro j
  rw [List.getElem?_set]
  by_cases h : k = j
  · subst h
    rw [if_pos rfl, wl_len, if_pos hk, wl_at hq]
  · rw [if_neg h, wl_get, wl_get, ho j (fun q => h q.symm), hs j (fun q => h q.symm)]
theorem wl_app {ad : Nat → Nat} {cA : FieldType → ClassId} {sh : List Kd} {σ σ' : Sto} {q : Kd} (hs : ∀ j, j ≠ sh.length → σ' j = σ j) : wl ad cA sh σ ++ [(ad sh.length, cE ad cA (σ' sh.length) q)] = wl ad cA (sh ++ [q]) σ' := by
  apply List.ext_getElem?
  intro j
  rw [wl_get]
  by_cases h : j < sh.length
  · rw [List.getElem?_append_left (by rw [wl_len]; exact h), List.getElem?_append_left h, wl_get, hs j (by omega)]
  · rw [List.getElem?_append_right (by rw [wl_len]; omega), List.getElem?_append_right (by omega), wl_len]
    by_cases h2 : j = sh.length
    · subst h2; simp
    · have : j - sh.length ≠ 0 := by omega
      rw [List.getElem?_eq_none (by simp; omega), List.getElem?_eq_none (by simp; omega)]; rfl
theorem of32 {n : Int} (h : r32 n) : (Int32.ofInt n).toInt = n := Int32.toInt_ofInt_of_le (by have := h.1; omega) (by have := h.2; omega)
theorem of64 {n : Int} (h : r64 n) : (Int64.ofInt n).toInt = n := Int64.toInt_ofInt_of_le (by have := h.1; omega) (by have := h.2; omega)
theorem r32_of (x : Int32) : r32 x.toInt := ⟨by have := x.le_toInt; omega, by have := x.toInt_lt; omega⟩
theorem r64_of (x : Int64) : r64 x.toInt := ⟨by have := x.le_toInt; omega, by have := x.toInt_lt; omega⟩
theorem w32_to (n : Int) : w32 n = (Int32.ofInt n).toInt := by rw [Int32.toInt_ofInt]; rfl
theorem w64_to (n : Int) : w64 n = (Int64.ofInt n).toInt := by rw [Int64.toInt_ofInt]; rfl
theorem w32_r (n : Int) : r32 (w32 n) := by rw [w32_to]; exact r32_of _
theorem w64_r (n : Int) : r64 (w64 n) := by rw [w64_to]; exact r64_of _
theorem of_w32 (n : Int) : Int32.ofInt (w32 n) = Int32.ofInt n := by rw [w32_to, Int32.ofInt_toInt]
theorem of_w64 (n : Int) : Int64.ofInt (w64 n) = Int64.ofInt n := by rw [w64_to, Int64.ofInt_toInt]
theorem lt32 {a b : Int} (ha : r32 a) (hb : r32 b) : Int32.ofInt a < Int32.ofInt b ↔ a < b := by rw [Int32.lt_iff_toInt_lt, of32 ha, of32 hb]
theorem le32 {a b : Int} (ha : r32 a) (hb : r32 b) : Int32.ofInt a ≤ Int32.ofInt b ↔ a ≤ b := by rw [Int32.le_iff_toInt_le, of32 ha, of32 hb]
theorem eq32 {a b : Int} (ha : r32 a) (hb : r32 b) : Int32.ofInt a = Int32.ofInt b ↔ a = b := by rw [← Int32.toInt_inj, of32 ha, of32 hb]
theorem r32_0 : r32 0 := ⟨by decide, by decide⟩
theorem of0 : Int32.ofInt 0 = 0 := rfl
theorem ne0_32 {a : Int} (ha : r32 a) (h : ¬ a = 0) : ¬ Int32.ofInt a = 0 := fun q => h ((eq32 ha r32_0).mp (q.trans of0.symm))
theorem r64_0 : r64 0 := ⟨by decide, by decide⟩
theorem ne0_64 {a : Int} (ha : r64 a) (h : ¬ a = 0) : ¬ Int64.ofInt a = 0 := fun q => h (by have h1 := congrArg Int64.toInt q; rw [of64 ha] at h1; exact h1)
theorem cl32 {i : Int} (h : r32 i) (h0 : 0 ≤ i) : ((Int32.ofInt i).toNatClampNeg : Int) = i := by
  rw [← Int32.toNat_toInt, of32 h]; omega
theorem clN32 {i : Int} (h : r32 i) : (Int32.ofInt i).toNatClampNeg = i.toNat := by
  rw [← Int32.toNat_toInt, of32 h]
theorem in32 {i : Int} {n : Nat} (h : r32 i) (h0 : 0 ≤ i) (h1 : i < n) : vp_in (Int32.ofInt i) n := by
  intro q
  rcases q with q | q
  · rw [← of0, lt32 h r32_0] at q; omega
  · rw [clN32 h] at q; omega
theorem loc_mem {ad : Nat → Nat} : ∀ (ls : Lcs) (i j : Nat) (v : AV), ls[j]? = some (some v) → (i + j, cV ad v) ∈ loc ad i ls := by
  intro ls
  induction ls with
  | nil => intro i j v h; simp at h
  | cons x r ih =>
    intro i j v h
    cases j with
    | zero =>
      simp at h
      subst h
      exact List.mem_cons_self
    | succ j =>
      have h' : r[j]? = some (some v) := by simpa using h
      have := ih (i + 1) j v h'
      rw [show i + (j + 1) = i + 1 + j by omega]
      cases x with
      | none => exact this
      | some x => exact List.mem_cons_of_mem _ this
theorem loc_of {ad : Nat → Nat} : ∀ (ls : Lcs) (i : Nat) (q : Nat × Value), q ∈ loc ad i ls → ∃ j v, ls[j]? = some (some v) ∧ q = (i + j, cV ad v) := by
  intro ls
  induction ls with
  | nil => intro i q h; simp [loc] at h
  | cons x r ih =>
    intro i q h
    cases x with
    | none =>
      obtain ⟨j, v, h1, h2⟩ := ih (i + 1) q h
      exact ⟨j + 1, v, by simpa using h1, by rw [h2]; congr 1; omega⟩
    | some x =>
      rcases List.mem_cons.mp h with rfl | h
      · exact ⟨0, x, rfl, rfl⟩
      · obtain ⟨j, v, h1, h2⟩ := ih (i + 1) q h
        exact ⟨j + 1, v, by simpa using h1, by rw [h2]; congr 1; omega⟩
theorem lv_mono {ls : Array Slot} {nL : Nat} {l l' : List (Nat × Value)} (h : lv_has ls nL l) (hs : ∀ q ∈ l', q ∈ l) : lv_has ls nL l' := ⟨h.1, h.2.1, fun q hq => h.2.2 q (hs q hq)⟩
theorem avC_cV (ad : Nat → Nat) (v : AV) : (cV ad v).category = avC v := by
  rcases v with n | n | _ | k <;> rfl
theorem sto1_get : ∀ (ls : Lcs) (i j : Nat) (v w : AV), i < ls.length → (sto1 ls i v)[j]? = some (some w) → (j = i ∧ w = v) ∨ (j ≠ i ∧ ls[j]? = some (some w) ∧ ¬ (j + 1 = i ∧ avC w = 2)) := by
  intro ls
  induction ls with
  | nil => intro i j v w hi h; simp at hi
  | cons x r ih =>
    intro i j v w hi h
    cases i with
    | zero =>
      cases j with
      | zero => simp [sto1] at h; exact Or.inl ⟨rfl, h.symm⟩
      | succ j => simp [sto1] at h; exact Or.inr ⟨by omega, by simpa using h, by omega⟩
    | succ i =>
      cases i with
      | zero =>
        cases r with
        | nil => simp at hi
        | cons y r =>
          rw [show sto1 (x :: y :: r) (0 + 1) v = clr x :: some v :: r from rfl] at h
          cases j with
          | zero =>
            simp only [List.getElem?_cons_zero, Option.some.injEq] at h
            refine Or.inr ⟨by omega, ?_, ?_⟩
            · rcases x with _ | n | n | n <;> simp_all [clr]
            · rcases x with _ | n | n | n
              · simp [clr] at h
              · simp [clr] at h; subst h; simp [avC]
              · simp [clr] at h
              · simp [clr] at h; subst h; simp [avC]
          | succ j =>
            cases j with
            | zero => simp at h; exact Or.inl ⟨rfl, h.symm⟩
            | succ j => simp at h; exact Or.inr ⟨by omega, by simpa using h, by omega⟩
      | succ i =>
        rw [show sto1 (x :: r) (i + 1 + 1) v = x :: sto1 r (i + 1) v from by cases r <;> rfl] at h
        cases j with
        | zero => simp at h; exact Or.inr ⟨by omega, by simpa using h, by omega⟩
        | succ j =>
          have h' : (sto1 r (i + 1) v)[j]? = some (some w) := by simpa using h
          rcases ih (i + 1) j v w (by simp at hi; omega) h' with ⟨h1, h2⟩ | ⟨h1, h2, h3⟩
          · exact Or.inl ⟨by omega, h2⟩
          · exact Or.inr ⟨by omega, by simpa using h2, by omega⟩
theorem sto2_get : ∀ (ls : Lcs) (i j : Nat) (v w : AV), i + 1 < ls.length → (sto2 ls i v)[j]? = some (some w) → (j = i ∧ w = v) ∨ (j ≠ i ∧ j ≠ i + 1 ∧ ls[j]? = some (some w) ∧ ¬ (j + 1 = i ∧ avC w = 2)) := by
  intro ls
  induction ls with
  | nil => intro i j v w hi h; simp at hi
  | cons x r ih =>
    intro i j v w hi h
    cases i with
    | zero =>
      cases r with
      | nil => simp at hi
      | cons y r =>
        rw [show sto2 (x :: y :: r) 0 v = some v :: none :: r from rfl] at h
        cases j with
        | zero => simp at h; exact Or.inl ⟨rfl, h.symm⟩
        | succ j =>
          cases j with
          | zero => simp at h
          | succ j => simp at h; exact Or.inr ⟨by omega, by omega, by simpa using h, by omega⟩
    | succ i =>
      cases i with
      | zero =>
        cases r with
        | nil => simp at hi
        | cons y r =>
          cases r with
          | nil => simp at hi
          | cons y2 r =>
            rw [show sto2 (x :: y :: y2 :: r) (0 + 1) v = clr x :: some v :: none :: r from rfl] at h
            cases j with
            | zero =>
              simp only [List.getElem?_cons_zero, Option.some.injEq] at h
              refine Or.inr ⟨by omega, by omega, ?_, ?_⟩
              · rcases x with _ | n | n | n <;> simp_all [clr]
              · rcases x with _ | n | n | n
                · simp [clr] at h
                · simp [clr] at h; subst h; simp [avC]
                · simp [clr] at h
                · simp [clr] at h; subst h; simp [avC]
            | succ j =>
              cases j with
              | zero => simp at h; exact Or.inl ⟨rfl, h.symm⟩
              | succ j =>
                cases j with
                | zero => simp at h
                | succ j => simp at h; exact Or.inr ⟨by omega, by omega, by simpa using h, by omega⟩
      | succ i =>
        rw [show sto2 (x :: r) (i + 1 + 1) v = x :: sto2 r (i + 1) v from by rcases r with _ | ⟨y, _ | ⟨z, r⟩⟩ <;> rfl] at h
        cases j with
        | zero => simp at h; exact Or.inr ⟨by omega, by omega, by simpa using h, by omega⟩
        | succ j =>
          have h' : (sto2 r (i + 1) v)[j]? = some (some w) := by simpa using h
          rcases ih (i + 1) j v w (by simp at hi ⊢; omega) h' with ⟨h1, h2⟩ | ⟨h1, h2, h3, h4⟩
          · exact Or.inl ⟨by omega, h2⟩
          · exact Or.inr ⟨by omega, by omega, by simpa using h3, by omega⟩
theorem sto1_loc {ad : Nat → Nat} {ls : Lcs} {i : Nat} {v : AV} (hi : i < ls.length) : ∀ q ∈ loc ad 0 (sto1 ls i v), q ∈ (i, cV ad v) :: (loc ad 0 ls).filter (fun q => !(q.1 == i) && !(q.1 + 1 == i && q.2.category == 2)) := by
  intro q hq
  obtain ⟨j, w, h1, rfl⟩ := loc_of _ _ _ hq
  rcases sto1_get ls i j v w hi h1 with ⟨rfl, rfl⟩ | ⟨h2, h3, h4⟩
  · simp
  · refine List.mem_cons_of_mem _ (List.mem_filter.mpr ⟨loc_mem _ _ _ _ h3, ?_⟩)
    simp only [Nat.zero_add, avC_cV]
    simp only [Bool.and_eq_true, Bool.not_eq_true', beq_eq_false_iff_ne, ne_eq, Bool.and_eq_false_iff]
    refine ⟨h2, ?_⟩
    by_cases h5 : j + 1 = i
    · exact Or.inr (fun z => h4 ⟨h5, z⟩)
    · exact Or.inl h5
theorem sto2_loc {ad : Nat → Nat} {ls : Lcs} {i : Nat} {v : AV} (hi : i + 1 < ls.length) : ∀ q ∈ loc ad 0 (sto2 ls i v), q ∈ (i, cV ad v) :: (loc ad 0 ls).filter (fun q => !(q.1 == i) && (!(q.1 == i + 1) && !(q.1 + 1 == i && q.2.category == 2))) := by
  intro q hq
  obtain ⟨j, w, h1, rfl⟩ := loc_of _ _ _ hq
  rcases sto2_get ls i j v w hi h1 with ⟨rfl, rfl⟩ | ⟨h2, h3, h4, h5⟩
  · simp
  · refine List.mem_cons_of_mem _ (List.mem_filter.mpr ⟨loc_mem _ _ _ _ h4, ?_⟩)
    simp only [Nat.zero_add, avC_cV]
    simp only [Bool.and_eq_true, Bool.not_eq_true', beq_eq_false_iff_ne, ne_eq, Bool.and_eq_false_iff]
    refine ⟨h2, h3, ?_⟩
    by_cases h6 : j + 1 = i
    · exact Or.inr (fun z => h5 ⟨h6, z⟩)
    · exact Or.inl h6
theorem sto1_len : ∀ (ls : Lcs) (i : Nat) (v : AV), (sto1 ls i v).length = ls.length := by
  intro ls
  induction ls with
  | nil => intro i v; rfl
  | cons x r ih =>
    intro i v
    rcases i with _ | _ | i
    · rfl
    · rcases r with _ | ⟨y, r⟩ <;> rfl
    · rw [show sto1 (x :: r) (i + 1 + 1) v = x :: sto1 r (i + 1) v from by cases r <;> rfl]; simp [ih]
theorem sto2_len : ∀ (ls : Lcs) (i : Nat) (v : AV), (sto2 ls i v).length = ls.length := by
  intro ls
  induction ls with
  | nil => intro i v; rfl
  | cons x r ih =>
    intro i v
    rcases i with _ | _ | i
    · rcases r with _ | ⟨y, r⟩ <;> rfl
    · rcases r with _ | ⟨y, _ | ⟨z, r⟩⟩ <;> rfl
    · rw [show sto2 (x :: r) (i + 1 + 1) v = x :: sto2 r (i + 1) v from by rcases r with _ | ⟨y, _ | ⟨z, r⟩⟩ <;> rfl]; simp [ih]
theorem sto1_ok {n : Nat} {ls : Lcs} {i : Nat} {v : AV} (h : lOK n ls) (hi : i < ls.length) (hv : vOK n v) : lOK n (sto1 ls i v) := by
  intro w hw
  obtain ⟨j, hj⟩ := List.getElem?_of_mem hw
  rcases sto1_get ls i j v w hi hj with ⟨-, rfl⟩ | ⟨-, h3, -⟩
  · exact hv
  · exact h w (List.mem_of_getElem? h3)
theorem sto2_ok {n : Nat} {ls : Lcs} {i : Nat} {v : AV} (h : lOK n ls) (hi : i + 1 < ls.length) (hv : vOK n v) : lOK n (sto2 ls i v) := by
  intro w hw
  obtain ⟨j, hj⟩ := List.getElem?_of_mem hw
  rcases sto2_get ls i j v w hi hj with ⟨-, rfl⟩ | ⟨-, -, h3, -⟩
  · exact hv
  · exact h w (List.mem_of_getElem? h3)
theorem catS_map (ad : Nat → Nat) (l : List AV) : ((l.map (cV ad)).map fun v => v.category).sum = catS l := by
  induction l with
  | nil => rfl
  | cons v l ih => simp only [List.map_cons, List.sum_cons, ih, avC_cV]; rfl
theorem entA_args (ad : Nat → Nat) : ∀ (as : List AV) (i : Nat) (q : Nat × Value), q ∈ loc ad i (entA as) → q ∈ lv_args i (as.map (cV ad)) := by
  intro as
  induction as with
  | nil => intro i q h; simp [entA, loc] at h
  | cons v r ih =>
    intro i q h
    rcases v with n | n | n
    · rw [show entA (.inl n :: r) = some (.inl n) :: entA r from rfl] at h
      rcases List.mem_cons.mp h with rfl | h
      · exact List.mem_cons_self
      · exact List.mem_cons_of_mem _ (ih (i + 1) q h)
    · rw [show entA (.inr (.inl n) :: r) = some (.inr (.inl n)) :: none :: entA r from rfl] at h
      rcases List.mem_cons.mp h with rfl | h
      · exact List.mem_cons_self
      · exact List.mem_cons_of_mem _ (ih (i + 2) q h)
    · rw [show entA (.inr (.inr n) :: r) = some (.inr (.inr n)) :: entA r from rfl] at h
      rcases List.mem_cons.mp h with rfl | h
      · exact List.mem_cons_self
      · have := ih (i + 1) q h
        refine List.mem_cons_of_mem _ ?_
        rcases n with _ | k <;> exact this
theorem loc_rep (ad : Nat → Nat) : ∀ (ls : Lcs) (i n : Nat), loc ad i (ls ++ List.replicate n none) = loc ad i ls := by
  intro ls
  induction ls with
  | nil =>
    intro i n
    induction n generalizing i with
    | zero => rfl
    | succ n ih => simp only [List.replicate_succ, List.nil_append, loc] at ih ⊢; exact ih (i + 1)
  | cons x r ih => intro i n; cases x <;> simp [loc, ih]
theorem entA_len (ad : Nat → Nat) (as : List AV) : (entA as).length = (lg_sl (as.map (cV ad))).length := by
  induction as with
  | nil => rfl
  | cons v r ih =>
    simp only [lg_sl, List.map_cons, List.flatMap_cons, List.length_append] at ih ⊢
    rcases v with n | n | _ | k <;> simp [entA, cV, Value.category, ih] <;> omega
theorem entL_len {n : Nat} {as : List AV} (h : (entA as).length ≤ n) : (entL n as).length = n := by simp [entL]; omega
theorem entA_ok {n : Nat} : ∀ (as : List AV), (∀ v ∈ as, vOK n v) → lOK n (entA as) := by
  intro as
  induction as with
  | nil => intro _ v h; simp [entA] at h
  | cons v r ih =>
    intro hv w hw
    have hr := ih (fun u hu => hv u (List.mem_cons_of_mem _ hu))
    rcases v with n | n | n
    · rcases List.mem_cons.mp hw with h | h
      · cases h; exact hv _ List.mem_cons_self
      · exact hr w h
    · rcases List.mem_cons.mp hw with h | h
      · cases h; exact hv _ List.mem_cons_self
      · rcases List.mem_cons.mp h with h | h
        · cases h
        · exact hr w h
    · rcases List.mem_cons.mp hw with h | h
      · cases h; exact hv _ List.mem_cons_self
      · exact hr w h
theorem entL_ok {n k : Nat} {as : List AV} (h : ∀ v ∈ as, vOK k v) : lOK k (entL n as) := by
  intro v hv
  rcases List.mem_append.mp hv with hv | hv
  · exact entA_ok as h v hv
  · have := List.eq_of_mem_replicate hv; cases this
theorem ent_has {ad : Nat → Nat} {n : Nat} {as : List AV} (h : (entA as).length ≤ n) : lv_has ((lg_sl (as.map (cV ad)) ++ List.replicate (n - (lg_sl (as.map (cV ad))).length) Slot.unset).toArray) n (loc ad 0 (entL n as)) := by
  refine lv_mono (lv_entry (as.map (cV ad)) (by rw [← entA_len]; exact h)) fun q hq => ?_
  rw [entL, loc_rep] at hq
  exact entA_args ad as 0 q hq
theorem Ag.rf {n : Nat} {ad : Nat → Nat} : Ag n ad ad := fun _ _ => rfl
theorem Ag.tr {n n' : Nat} {a b c : Nat → Nat} (hn : n ≤ n') (h1 : Ag n a b) (h2 : Ag n' b c) : Ag n a c := fun k hk => (h2 k (by omega)).trans (h1 k hk)
theorem rOK.mono {n n' : Nat} {r : Option Nat} (hn : n ≤ n') (h : rOK n r) : rOK n' r := fun k hk => by have := h k hk; omega
theorem vOK.mono {n n' : Nat} {v : AV} (hn : n ≤ n') (h : vOK n v) : vOK n' v := by
  rcases v with x | x | r
  · exact h
  · exact h
  · exact rOK.mono hn h
theorem kOK.mono {n n' : Nat} {z : Int → Int} {q : Kd} (hn : n ≤ n') (h : kOK n z q) : kOK n' z q := by
  rcases q with ⟨ci, fs⟩ | ⟨ty, m⟩ | l
  · exact ⟨h.1, fun j r hj => (h.2 j r hj).mono hn⟩
  · exact h
  · exact fun j r hj => (h j r hj).mono hn
theorem cV_ag {n : Nat} {ad ad' : Nat → Nat} (h : Ag n ad ad') {v : AV} (hv : vOK n v) : cV ad' v = cV ad v := by
  rcases v with x | x | _ | k
  · rfl
  · rfl
  · rfl
  · show Value.ref (ad' k) = Value.ref (ad k)
    rw [h k (hv k rfl)]
theorem map_ag {n : Nat} {ad ad' : Nat → Nat} (h : Ag n ad ad') {l : List AV} (hv : ∀ v ∈ l, vOK n v) : l.map (cV ad') = l.map (cV ad) := List.map_congr_left fun v hm => cV_ag h (hv v hm)
theorem loc_ag {n : Nat} {ad ad' : Nat → Nat} (h : Ag n ad ad') : ∀ (ls : Lcs) (i : Nat), lOK n ls → loc ad' i ls = loc ad i ls := by
  intro ls
  induction ls with
  | nil => intro i _; rfl
  | cons x r ih =>
    intro i hl
    have hr := ih (i + 1) (fun v hv => hl v (List.mem_cons_of_mem _ hv))
    cases x with
    | none => exact hr
    | some v => simp only [loc]; rw [hr, cV_ag h (hl v List.mem_cons_self)]
theorem cE_ag {n : Nat} {ad ad' : Nat → Nat} (h : Ag n ad ad') {cA : FieldType → ClassId} {z : Int → Int} {q : Kd} (hq : kOK n z q) : cE ad' cA z q = cE ad cA z q := by
  rcases q with ⟨ci, fs⟩ | ⟨ty, m⟩ | l
  · simp only [cE]
    congr 2
    apply List.ext_getElem?
    intro j
    simp only [List.getElem?_mapIdx]
    cases hj : fs[j]? with
    | none => rfl
    | some f =>
      cases f with
      | none => rfl
      | some r =>
        simp only [Option.map_some, fV]
        rw [cV_ag h (v := .inr (.inr r)) (hq.2 j r hj)]
  · rfl
  · simp only [cE]
    congr 8
    funext j
    rw [List.getD_eq_getElem?_getD]
    cases hj : l[j]? with
    | none => rfl
    | some r =>
      cases r with
      | none => rfl
      | some k =>
        simp only [Option.getD_some, Option.map_some]
        rw [h k (hq j (some k) hj k rfl)]
theorem wl_ag {ad ad' : Nat → Nat} {cA : FieldType → ClassId} {sh : List Kd} {σ : Sto} (h : Ag sh.length ad ad') (hs : sOK sh σ) : wl ad' cA sh σ = wl ad cA sh σ := by
  apply List.ext_getElem?
  intro k
  rw [wl_get, wl_get]
  cases hk : sh[k]? with
  | none => rfl
  | some q =>
    have hl : k < sh.length := (List.getElem?_eq_some_iff.mp hk).1
    simp only [Option.map_some]
    rw [h k (Or.inl hl), cE_ag h (hs k q hk)]
