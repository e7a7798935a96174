section
variable {d : Nat} {sh : List Kd} {σ : Sto} {Q : Option AV → List Kd → Sto → Prop} {t : Nat} {M : Sto} {Ls : List (List Cl)}
theorem fsH_m1 {g : Int → Int} : ∀ (n : Nat) (h : Int), fsH g h n = -1 ↔ ∀ j, h ≤ j → j < h + n → g j = -1 := by
  intro n
  induction n with
  | zero => intro h; exact ⟨fun _ j j0 j1 => by omega, fun _ => rfl⟩
  | succ n ih =>
    intro h
    rw [fsH_s]
    by_cases c : g h = -1
    · rw [if_pos c, ih]
      constructor
      · intro q j j0 j1
        by_cases e : j = h
        · rw [e]; exact c
        · exact q j (by omega) (by omega)
      · intro q j j0 j1
        exact q j (by omega) (by omega)
    · rw [if_neg c]
      exact ⟨fun q => absurd q c, fun q => q h (by omega) (by omega)⟩
theorem fsB_f {g : Int → Bool} : ∀ (n : Nat) (h : Int), fsB g h n = false ↔ ∀ j, h ≤ j → j < h + n → g j = false := by
  intro n
  induction n with
  | zero => intro h; exact ⟨fun _ j j0 j1 => by omega, fun _ => rfl⟩
  | succ n ih =>
    intro h
    rw [fsB_s]
    by_cases c : g h = true
    · rw [if_pos c]
      exact ⟨fun q => (by cases q), fun q => (by rw [q h (by omega) (by omega)] at c; cases c)⟩
    · rw [if_neg c, ih]
      constructor
      · intro q j j0 j1
        by_cases e : j = h
        · rw [e]; exact Bool.eq_false_iff.mpr c
        · exact q j (by omega) (by omega)
      · intro q j j0 j1
        exact q j (by omega) (by omega)
theorem fsB_cg {g g' : Int → Bool} : ∀ (n : Nat) (h : Int), (∀ j, h ≤ j → j < h + n → g j = g' j) → fsB g h n = fsB g' h n := by
  intro n
  induction n with
  | zero => intro h _; rfl
  | succ n ih =>
    intro h q
    rw [fsB_s, fsB_s, q h (by omega) (by omega), ih (h + 1) (fun j j0 j1 => q j (by omega) (by omega))]
/-- a living is found where the people can be parted -/
theorem pl_pb {rm F : Int → Int} {W H : Int} : ∀ (k : Nat) (p l : Int) (I : Int → Int), 0 ≤ l → (∀ q, p ≤ q → q < p + k → ¬ zand (zshr W q) 1 = 0) → (plN rm F W H k p l I = -1 ↔ pbN (tkB rm F) H k p I = false) := by
  intro k
  induction k with
  | zero => intro p l I h0 _; exact ⟨fun q => by simp only [plN] at q; omega, fun q => by cases q⟩
  | succ k ih =>
    intro p l I h0 hw
    rw [plN, if_neg (hw p (by omega) (by omega)), pbN, fsH_m1, fsB_f]
    constructor
    · intro q j j0 j1
      have := q j j0 j1
      by_cases c : tkB rm F I j p = true
      · rw [if_pos c] at this
        rw [c, Bool.true_and]
        exact (ih (p + 1) (l * 4 + j) (inI I j p) (by omega) (fun q q0 q1 => hw q (by omega) (by omega))).mp this
      · rw [Bool.eq_false_iff.mpr c, Bool.false_and]
    · intro q j j0 j1
      have := q j j0 j1
      by_cases c : tkB rm F I j p = true
      · rw [if_pos c]
        rw [c, Bool.true_and] at this
        exact (ih (p + 1) (l * 4 + j) (inI I j p) (by omega) (fun q q0 q1 => hw q (by omega) (by omega))).mpr this
      · rw [if_neg c]
theorem pb_cg {tk tk' : (Int → Int) → Int → Int → Bool} {H P : Int} {inv : (Int → Int) → Int → Prop} (hst : ∀ I h q, inv I q → 0 ≤ h → h < H → 0 ≤ q → q < P → tk I h q = true → inv (inI I h q) (q + 1)) (heq : ∀ I h q, inv I q → 0 ≤ h → h < H → 0 ≤ q → q < P → tk I h q = tk' I h q) : ∀ (k : Nat) (p : Int) (I : Int → Int), 0 ≤ p → p + k ≤ P → inv I p → pbN tk H k p I = pbN tk' H k p I := by
  intro k
  induction k with
  | zero => intro p I _ _ _; rfl
  | succ k ih =>
    intro p I p0 p1 hi
    rw [pbN, pbN]
    refine fsB_cg _ _ (fun h h0 h1 => ?_)
    rw [← heq I h p hi h0 (by omega) p0 (by omega)]
    by_cases c : tk I h p = true
    · rw [c, Bool.true_and, Bool.true_and]
      exact ih (p + 1) (inI I h p) (by omega) (by omega) (hst I h p hi h0 (by omega) p0 (by omega) c)
    · rw [Bool.eq_false_iff.mpr c, Bool.false_and, Bool.false_and]
/-- what stands in houses while the first p people are put -/
def lowI (H : Int) (I : Int → Int) (p : Int) : Prop := ∀ h, 0 ≤ h → h < H → 0 ≤ I h ∧ I h < ((2 ^ p.toNat : Nat) : Int)
theorem low_in {H h p : Int} {I : Int → Int} (hl : lowI H I p) (p0 : 0 ≤ p) (p1 : p < 6) : lowI H (inI I h p) (p + 1) := by
  intro j j0 j1
  have q2 := p2 p0 p1
  have := hl j j0 j1
  unfold inI
  rw [q2.2]
  by_cases e : j = h
  · rw [if_pos e, ← e, (rs p0 p1 this.1 this.2).1]; omega
  · rw [if_neg e]; omega
theorem bcs6 : ∀ p : Fin 6, ∀ x : Fin 64, x.val < 2 ^ p.val → bc ((x.val + 2 ^ p.val : Nat) : Int) = bc (x.val : Int) + 1 ∧ 0 ≤ bc (x.val : Int) ∧ bc (x.val : Int) ≤ p.val := by decide +kernel
theorem bcs {p x : Int} (p0 : 0 ≤ p) (p1 : p < 6) (x0 : 0 ≤ x) (x1 : x < ((2 ^ p.toNat : Nat) : Int)) : bc (zor x (zshl 1 p)) = bc x + 1 ∧ 0 ≤ bc x ∧ bc x ≤ p := by
  have q := p2 p0 p1
  have := bcs6 ⟨p.toNat, by omega⟩ ⟨x.toNat, by omega⟩ (by show x.toNat < 2 ^ p.toNat; omega)
  simp only [show ((x.toNat : Nat) : Int) = x by omega] at this
  rw [(rs p0 p1 x0 x1).1, show x + ((2 ^ p.toNat : Nat) : Int) = ((x.toNat + 2 ^ p.toNat : Nat) : Int) by omega]
  exact ⟨this.1, this.2.1, by omega⟩
/-- six rooms are enough for anybody -/
theorem pb_6 {rm F F' : Int → Int} {H P : Int} (hP : P ≤ 6) (hr : ∀ h, 0 ≤ h → h < H → rm h = 6) (hF : ∀ q, 0 ≤ q → q < P → F q = F' q) {k : Nat} (hk : (k : Int) ≤ P) {I : Int → Int} (hI : lowI H I 0) : pbN (tkB rm F) H k 0 I = pbN (tk0 F') H k 0 I := by
  refine pb_cg (P := P) (inv := lowI H) (fun I h q hl h0 h1 q0 q1 _ => low_in hl q0 (by omega)) (fun I h q hl h0 h1 q0 q1 => ?_) k 0 I (by omega) (by omega) hI
  have b := bcs q0 (by omega) (hl h h0 h1).1 (hl h h0 h1).2
  unfold tkB tk0
  rw [hr h h0 h1, hF q q0 q1]
  exact decide_eq_decide.mpr ⟨fun z => z.2, fun z => ⟨by omega, z⟩⟩
/-- a part is full when it has so many -/
theorem pb_sz {rm F F' : Int → Int} {H P sz : Int} (hP : P ≤ 6) (hz : 0 ≤ sz) (hr : ∀ h, 0 ≤ h → h < H → rm h = sz) (hF : ∀ q, 0 ≤ q → q < P → F q = F' q) {k : Nat} (hk : (k : Int) ≤ P) {I : Int → Int} (hI : lowI H I 0) (h0 : ∀ h, 0 ≤ h → h < H → bc (I h) ≤ sz) : pbN (tkB rm F) H k 0 I = pbN (tk1 F' sz) H k 0 I := by
  refine pb_cg (P := P) (inv := fun I p => lowI H I p ∧ ∀ h, 0 ≤ h → h < H → bc (I h) ≤ sz) (fun I h q hl h0 h1 q0 q1 tk => ⟨low_in hl.1 q0 (by omega), fun j j0 j1 => ?_⟩) (fun I h q hl h0 h1 q0 q1 => ?_) k 0 I (by omega) (by omega) ⟨hI, h0⟩
  · unfold tkB at tk
    have tk := of_decide_eq_true tk
    rw [hr h h0 h1] at tk
    unfold inI
    by_cases e : j = h
    · rw [if_pos e, (bcs q0 (by omega) (hl.1 h h0 h1).1 (hl.1 h h0 h1).2).1]; omega
    · rw [if_neg e]; exact hl.2 j j0 j1
  · have := hl.2 h h0 h1
    unfold tkB tk1
    rw [hr h h0 h1, hF q q0 q1]
    exact decide_eq_decide.mpr ⟨fun z => ⟨z.2, by omega⟩, fun z => ⟨by omega, z.1⟩⟩
end
