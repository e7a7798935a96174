section
variable {d : Nat} {sh : List Kd} {σ : Sto} {Q : Option AV → List Kd → Sto → Prop} {t : Nat} {M : Sto} {Ls : List (List Cl)}
theorem bc_s {f : Int → Bool} {n : Nat} (h : n < 6) : bc (seN f (n + 1) : Int) = bc (seN f n : Int) + (if f n = true then 1 else 0) := by
  rw [seN]
  by_cases c : f n = true
  · rw [if_pos c, if_pos c]
    have l := seN_lt f n
    have b := bcs (p := n) (x := (seN f n : Int)) (by omega) (by omega) (by omega) (by rw [Int.toNat_natCast]; omega)
    rw [seN_or (by omega)] at b
    exact b.1
  · rw [if_neg c, if_neg c, Nat.add_zero, Int.add_zero]
theorem bc_m {f : Int → Bool} {m : Nat} : ∀ k : Nat, m + k ≤ 6 → bc (seN f m : Int) ≤ bc (seN f (m + k) : Int) := by
  intro k
  induction k with
  | zero => intro _; exact Int.le_refl _
  | succ k ih =>
    intro h
    have i1 := ih (by omega)
    rw [← Nat.add_assoc, bc_s (by omega)]
    split <;> omega
theorem za_iff {f : Int → Bool} {n x : Int} {fo : Int → Bool} (h0 : 0 ≤ n) (h1 : n ≤ 6) (hx : peI x fo) : zand (seN f n.toNat : Int) x = 0 ↔ ∀ v, 0 ≤ v → v < n → f v = true → fo v = false := by
  rw [((se_st (f := f) h0 h1).and hx).zero]
  constructor
  · intro q v v0 v1 fv
    have := q v v0 (by omega)
    rw [decide_eq_true v1, fv, Bool.true_and, Bool.true_and] at this
    exact this
  · intro q v v0 v1
    by_cases c : v < n
    · cases e : f v with
      | false => rw [Bool.and_false, Bool.false_and]
      | true => rw [q v v0 c e, Bool.and_false]
    · rw [decide_eq_false c, Bool.false_and, Bool.false_and]
/-- a house is lawful -/
def okH (rm F : Int → Int) (W : Int → Bool) (D : Int → Int) (P h : Int) : Bool := decide (bc (th W D h P.toNat : Int) ≤ rm h) && !anN (fun p => (th W D h P.toNat).testBit p.toNat && decide (¬ zand (th W D h P.toNat : Int) (F p) = 0)) P.toNat
def laB (rm F : Int → Int) (W : Int → Bool) (D : Int → Int) (P H : Int) : Bool := !anN (fun h => !okH rm F W D P h) H.toNat
theorem th_tb {W : Int → Bool} {D : Int → Int} {P h p : Int} (p0 : 0 ≤ p) (p1 : p < P) : (th W D h P.toNat).testBit p.toNat = (W p && decide (D p = h)) := by
  unfold th
  rw [seN_tb, show ((p.toNat : Nat) : Int) = p by omega, decide_eq_true (show p.toNat < P.toNat by omega), Bool.true_and]
theorem okH_iff {rm F : Int → Int} {W : Int → Bool} {D : Int → Int} {P h : Int} (hP : 0 ≤ P) : okH rm F W D P h = true ↔ bc (th W D h P.toNat : Int) ≤ rm h ∧ ∀ p, 0 ≤ p → p < P → W p = true → D p = h → zand (th W D h P.toNat : Int) (F p) = 0 := by
  unfold okH
  rw [Bool.and_eq_true, decide_eq_true_eq, Bool.not_eq_true']
  constructor
  · rintro ⟨a, b⟩
    refine ⟨a, fun p p0 p1 w e => Classical.byContradiction (fun z => ?_)⟩
    have := (anN_iff (fun p => (th W D h P.toNat).testBit p.toNat && decide (¬ zand (th W D h P.toNat : Int) (F p) = 0)) P.toNat).mpr ⟨p, p0, by omega, by rw [th_tb p0 p1, w, decide_eq_true e, decide_eq_true z]; rfl⟩
    rw [b] at this
    cases this
  · rintro ⟨a, b⟩
    refine ⟨a, anN_f (fun p p0 p1 => ?_)⟩
    try dsimp only
    rw [th_tb p0 (show p < P by omega)]
    cases w : W p with
    | false => rfl
    | true =>
      by_cases e : D p = h
      · rw [decide_eq_false (show ¬ ¬ zand (th W D h P.toNat : Int) (F p) = 0 from fun q => q (b p p0 (by omega) w e)), Bool.and_false]
      · rw [decide_eq_false e]; rfl
theorem laB_iff {rm F : Int → Int} {W : Int → Bool} {D : Int → Int} {P H : Int} : laB rm F W D P H = true ↔ ∀ h, 0 ≤ h → h < H → okH rm F W D P h = true := by
  unfold laB
  rw [Bool.not_eq_true']
  constructor
  · intro q h h0 h1
    refine Classical.byContradiction (fun z => ?_)
    have := (anN_iff (fun h => !okH rm F W D P h) H.toNat).mpr ⟨h, h0, by omega, by rw [Bool.eq_false_iff.mpr z]; rfl⟩
    rw [q] at this
    cases this
  · intro q
    refine anN_f (fun h h0 h1 => ?_)
    try dsimp only
    rw [q h h0 (by omega)]; rfl
/-- foes -/
def foP (F : Int → Int) (fo : Int → Int → Bool) (P : Int) : Prop := (∀ p, 0 ≤ p → p < P → peI (F p) (fo p)) ∧ (∀ p q, 0 ≤ p → p < P → 0 ≤ q → q < P → fo p q = fo q p) ∧ ∀ p, fo p p = false
theorem law_iff {rm F : Int → Int} {fo : Int → Int → Bool} {W : Int → Bool} {D : Int → Int} {P H : Int} (h0 : 0 ≤ P) (h6 : P ≤ 6) (hF : foP F fo P) (hr : ∀ h, 0 ≤ h → h < H → 0 ≤ rm h) :
    (∀ q, 0 ≤ q → q < P → W q = true → 0 ≤ D q → D q < H → tkB rm F (thI W D q.toNat) (D q) q = true) ↔ laB rm F W D P H = true := by
  obtain ⟨f1, f2, f3⟩ := hF
  rw [laB_iff]
  have tk : ∀ q, 0 ≤ q → q < P → (tkB rm F (thI W D q.toNat) (D q) q = true ↔ bc (th W D (D q) q.toNat : Int) < rm (D q) ∧ ∀ v, 0 ≤ v → v < q → W v = true → D v = D q → fo q v = false) := by
    intro q q0 q1
    unfold tkB
    rw [decide_eq_true_eq]
    refine and_congr Iff.rfl ?_
    unfold thI th
    rw [za_iff q0 (by omega) (f1 q q0 q1)]
    constructor
    · intro z v v0 v1 w e
      exact z v v0 v1 (by rw [w, decide_eq_true e]; rfl)
    · intro z v v0 v1 w
      rw [Bool.and_eq_true, decide_eq_true_eq] at w
      exact z v v0 v1 w.1 w.2
  constructor
  · intro hq h hh0 hh1
    rw [okH_iff h0]
    constructor
    · have key : ∀ n : Nat, n ≤ P → bc (th W D h n : Int) ≤ rm h := by
        intro n
        induction n with
        | zero => intro _; have := hr h hh0 hh1; show bc (0 : Int) ≤ rm h; rw [show bc (0 : Int) = 0 by decide]; exact this
        | succ n ih =>
          intro hn
          have i1 := ih (by omega)
          unfold th
          rw [bc_s (by omega)]
          by_cases c : (W n && decide (D n = h)) = true
          · rw [if_pos c]
            rw [Bool.and_eq_true, decide_eq_true_eq] at c
            have := ((tk n (by omega) (by omega)).mp (hq n (by omega) (by omega) c.1 (by omega) (by omega))).1
            rw [Int.toNat_natCast, c.2] at this
            unfold th at this
            omega
          · rw [if_neg c]
            unfold th at i1
            omega
      exact key P.toNat (by omega)
    · intro p p0 p1 w e
      unfold th
      rw [za_iff h0 h6 (f1 p p0 p1)]
      intro v v0 v1 z
      rw [Bool.and_eq_true, decide_eq_true_eq] at z
      rcases Int.lt_trichotomy v p with c | c | c
      · exact ((tk p p0 p1).mp (hq p p0 p1 w (by omega) (by omega))).2 v v0 c z.1 (by omega)
      · rw [c]; exact f3 p
      · rw [f2 p v p0 p1 v0 v1]
        exact ((tk v v0 v1).mp (hq v v0 v1 z.1 (by omega) (by omega))).2 p p0 c w (by omega)
  · intro hq q q0 q1 w d0 d1
    obtain ⟨a, b⟩ := (okH_iff h0).mp (hq (D q) d0 d1)
    rw [tk q q0 q1]
    constructor
    · have e1 := bc_s (f := fun x => W x && decide (D x = D q)) (n := q.toNat) (by omega)
      simp only [show ((q.toNat : Nat) : Int) = q by omega] at e1
      rw [w, Bool.true_and, if_pos (decide_eq_true trivial)] at e1
      have e2 := bc_m (f := fun x => W x && decide (D x = D q)) (m := q.toNat + 1) (P - 1 - q).toNat (by omega)
      rw [show q.toNat + 1 + (P - 1 - q).toNat = P.toNat by omega] at e2
      unfold th at a ⊢
      omega
    · intro v v0 v1 wv ev
      have := b q q0 q1 w rfl
      unfold th at this
      rw [za_iff h0 h6 (f1 q q0 q1)] at this
      exact this v v0 (by omega) (by rw [wv, decide_eq_true ev]; rfl)
theorem ag_fo {n : Int} (w : wfM M Ls) : foP (fun p => (agN M Ls n p : Int)) (fun p v => decide (v < M 0 0) && agF M Ls n p v) (M 0 0) := by
  have u := w.sc
  refine ⟨fun p _ _ => se_st u.1 u.2.1, fun p q p0 p1 q0 q1 => ?_, fun p => ?_⟩
  · unfold agF
    dsimp only
    rw [decide_eq_true p1, decide_eq_true q1, cls_comm, show decide (¬ q = p) = decide (¬ p = q) from decide_eq_decide.mpr (by omega)]
  · unfold agF
    dsimp only
    rw [decide_eq_false (show ¬ ¬ p = p from fun q => q rfl), Bool.false_and, Bool.and_false]
theorem td_fo {x : Int} (w : wfM M Ls) : foP (fun p => (tdN M Ls x p : Int)) (fun p v => decide (v < M 0 0) && tdF M Ls x p v) (M 0 0) := by
  have u := w.sc
  refine ⟨fun p _ _ => se_st u.1 u.2.1, fun p q p0 p1 q0 q1 => ?_, fun p => ?_⟩
  · unfold tdF
    dsimp only
    rw [decide_eq_true p1, decide_eq_true q1, od_comm, show decide (¬ q = p) = decide (¬ p = q) from decide_eq_decide.mpr (by omega)]
  · unfold tdF
    dsimp only
    rw [decide_eq_false (show ¬ ¬ p = p from fun q => q rfl), Bool.false_and, Bool.and_false]
end
