-- livings: houses of people, lawful ones, the lowest
section
variable {d : Nat} {sh : List Kd} {σ : Sto} {Q : Option AV → List Kd → Sto → Prop} {t : Nat} {M : Sto} {Ls : List (List Cl)}
def qt (v : Int) : Nat → Int
  | 0 => v
  | n + 1 => qt v n / 4
theorem qt_s (v : Int) (n : Nat) : qt v (n + 1) = qt v n / 4 := rfl
theorem qt_c (v : Int) : ∀ n, qt v (n + 1) = qt (v / 4) n := by
  intro n
  induction n with
  | zero => rfl
  | succ n ih => rw [qt_s, ih, qt_s]
theorem qt_le : ∀ (n : Nat) {v u : Int}, v ≤ u → qt v n ≤ qt u n := by
  intro n
  induction n with
  | zero => intro v u h; exact h
  | succ n ih => intro v u h; have := ih h; rw [qt_s, qt_s]; omega
theorem qt_nn : ∀ (n : Nat) {v : Int}, 0 ≤ v → 0 ≤ qt v n := by
  intro n
  induction n with
  | zero => intro v h; exact h
  | succ n ih => intro v h; have := ih h; rw [qt_s]; omega
/-- the house of a person in a living -/
def dg (P v p : Int) : Int := qt v (P - 1 - p).toNat % 4
/-- the first of some livings -/
def isF (x : Int) (S : Int → Prop) : Prop := (x = -1 ∧ ∀ v, 0 ≤ v → ¬ S v) ∨ (0 ≤ x ∧ S x ∧ ∀ v, 0 ≤ v → v < x → ¬ S v)
theorem isF.un {x y : Int} {S : Int → Prop} (h : isF x S) (h' : isF y S) : x = y := by
  rcases h with ⟨a, b⟩ | ⟨a, b, c⟩ <;> rcases h' with ⟨a', b'⟩ | ⟨a', b', c'⟩
  · omega
  · exact absurd b' (b y a')
  · exact absurd b (b' x a)
  · rcases Int.lt_trichotomy x y with h | h | h
    · exact absurd b (c' x a h)
    · exact h
    · exact absurd b' (c y a' h)
theorem isF.sub {x : Int} {S S' : Int → Prop} (h : isF x S') (h1 : ∀ v, 0 ≤ v → S' v → S v) (h2 : ∀ v, 0 ≤ v → S v → ∃ u, 0 ≤ u ∧ u ≤ v ∧ S' u) : isF x S := by
  rcases h with ⟨a, b⟩ | ⟨a, b, c⟩
  · refine Or.inl ⟨a, fun v v0 hv => ?_⟩
    obtain ⟨u, u0, _, hu⟩ := h2 v v0 hv
    exact b u u0 hu
  · refine Or.inr ⟨a, h1 x a b, fun v v0 v1 hv => ?_⟩
    obtain ⟨u, u0, u1, hu⟩ := h2 v v0 hv
    exact c u u0 (by omega) hu
theorem isF.cg {x : Int} {S S' : Int → Prop} (h : isF x S) (e : ∀ v, 0 ≤ v → (S v ↔ S' v)) : isF x S' :=
  h.sub (fun v v0 q => (e v v0).mp q) (fun v v0 q => ⟨v, v0, by omega, (e v v0).mpr q⟩)
theorem isF.or {x y : Int} {A B : Int → Prop} (h : isF x A) (h' : isF y B) (hab : ∀ a b, 0 ≤ a → 0 ≤ b → A a → B b → a < b) : isF (if x = -1 then y else x) (fun v => A v ∨ B v) := by
  rcases h with ⟨a, b⟩ | ⟨a, b, c⟩
  · rw [if_pos a]
    exact h'.cg (fun v v0 => ⟨fun q => Or.inr q, fun q => q.elim (fun q => absurd q (b v v0)) id⟩)
  · rw [if_neg (by omega)]
    refine Or.inr ⟨a, Or.inl b, fun v v0 v1 q => ?_⟩
    rcases q with q | q
    · exact c v v0 v1 q
    · have := hab x v a v0 b q; omega
/-- those of a set who live in a house -/
def th (W : Int → Bool) (D : Int → Int) (h : Int) (n : Nat) : Nat := seN (fun q => W q && decide (D q = h)) n
def thI (W : Int → Bool) (D : Int → Int) (n : Nat) : Int → Int := fun h => (th W D h n : Int)
theorem seN_cg {f g : Int → Bool} : ∀ (n : Nat), (∀ q : Int, 0 ≤ q → q < n → f q = g q) → seN f n = seN g n := by
  intro n
  induction n with
  | zero => intro _; rfl
  | succ n ih =>
    intro e
    rw [seN, seN, ih (fun q q0 q1 => e q q0 (by omega)), e n (by omega) (by omega)]
theorem th_cg {W : Int → Bool} {D D' : Int → Int} {n : Nat} (e : ∀ q : Int, 0 ≤ q → q < n → W q = true → D q = D' q) : thI W D n = thI W D' n := by
  funext h
  unfold thI th
  rw [seN_cg n (fun q q0 q1 => ?_)]
  cases w : W q with
  | false => rfl
  | true => rw [e q q0 q1 w]
theorem th_s1 {W : Int → Bool} {D : Int → Int} {p : Int} (p0 : 0 ≤ p) (p6 : p < 6) (w : W p = true) : thI W D (p + 1).toNat = inI (thI W D p.toNat) (D p) p := by
  funext j
  unfold thI inI th
  rw [show (p + 1).toNat = p.toNat + 1 by omega, seN]
  have e := seN_or (f := fun q => W q && decide (D q = D p)) (n := p.toNat) (by omega)
  simp only [show ((p.toNat : Nat) : Int) = p by omega] at e ⊢
  rw [w, Bool.true_and]
  by_cases c : j = D p
  · rw [if_pos c, c, e, if_pos (decide_eq_true rfl)]
  · rw [if_neg c, if_neg (by rw [decide_eq_false (fun q => c q.symm)]; decide), Nat.add_zero]
theorem th_s0 {W : Int → Bool} {D : Int → Int} {p : Int} (p0 : 0 ≤ p) (w : W p = false) : thI W D (p + 1).toNat = thI W D p.toNat := by
  funext j
  unfold thI th
  rw [show (p + 1).toNat = p.toNat + 1 by omega, seN]
  simp only [show ((p.toNat : Nat) : Int) = p by omega]
  rw [w, Bool.false_and, if_neg (by decide), Nat.add_zero]
theorem qt_low : ∀ (k : Nat) (v l : Int), 0 ≤ v → qt v k / 4 = l → ∃ u, 0 ≤ u ∧ u ≤ v ∧ qt u k = 4 * l ∧ ∀ i, i < k → qt u i % 4 = qt v i % 4 := by
  intro k
  induction k with
  | zero => intro v l v0 e; simp only [qt] at e; exact ⟨4 * l, by omega, by omega, rfl, fun i h => absurd h (by omega)⟩
  | succ k ih =>
    intro v l v0 e
    rw [qt_c] at e
    obtain ⟨u, u0, u1, e1, e2⟩ := ih (v / 4) l (by omega) e
    refine ⟨4 * u + v % 4, by omega, by omega, ?_, fun i hi => ?_⟩
    · rw [qt_c, show (4 * u + v % 4) / 4 = u by omega]; exact e1
    · cases i with
      | zero => show (4 * u + v % 4) % 4 = v % 4; omega
      | succ i => rw [qt_c, qt_c, show (4 * u + v % 4) / 4 = u by omega]; exact e2 i (by omega)
/-- somebody can be put where a living puts him -/
def sqP (rm F : Int → Int) (W : Int → Bool) (D : Int → Int) (H q : Int) : Prop := D q < H ∧ (W q = true → tkB rm F (thI W D q.toNat) (D q) q = true)
theorem pl_F {rm F : Int → Int} {Wn H P : Int} {W : Int → Bool} (hW : ∀ q, 0 ≤ q → q < P → (zand (zshr Wn q) 1 = 0 ↔ W q = false)) (hP : P ≤ 6) (hH : 0 < H ∧ H ≤ 4) : ∀ (k : Nat) (p l : Int) (I : Int → Int), P - p = k → 0 ≤ p → 0 ≤ l → (∀ v, 0 ≤ v → qt v k = l → thI W (dg P v) p.toNat = I) →
    isF (plN rm F Wn H k p l I) (fun v => qt v k = l ∧ ∀ q, p ≤ q → q < P → sqP rm F W (dg P v) H q) := by
  intro k
  induction k with
  | zero =>
    intro p l I hk p0 l0 hI
    refine Or.inr ⟨l0, ⟨rfl, fun q q0 q1 => by omega⟩, fun v v0 v1 q => ?_⟩
    have := q.1
    simp only [qt] at this
    rw [plN] at v1
    omega
  | succ k ih =>
    intro p l I hk p0 l0 hI
    have dp : ∀ v, dg P v p = qt v k % 4 := fun v => by unfold dg; rw [show (P - 1 - p).toNat = k by omega]
    rw [plN]
    by_cases w : zand (zshr Wn p) 1 = 0
    · rw [if_pos w]
      have w' := (hW p p0 (by omega)).mp w
      refine (ih (p + 1) (l * 4) I (by omega) (by omega) (by omega) (fun v v0 e => ?_)).sub (fun v v0 hv => ?_) (fun v v0 hv => ?_)
      · rw [th_s0 p0 w']
        exact hI v v0 (by rw [qt_s, e]; omega)
      · refine ⟨by rw [qt_s, hv.1]; omega, fun q q0 q1 => ?_⟩
        by_cases c : q = p
        · rw [c]
          exact ⟨by rw [dp, hv.1]; omega, fun z => by rw [w'] at z; cases z⟩
        · exact hv.2 q (by omega) q1
      · obtain ⟨u, u0, u1, e1, e2⟩ := qt_low k v l v0 hv.1
        have de : ∀ q, p < q → q < P → dg P u q = dg P v q := fun q q0 q1 => by unfold dg; exact e2 _ (by omega)
        refine ⟨u, u0, u1, by rw [e1]; omega, fun q q0 q1 => ?_⟩
        have ht : thI W (dg P u) q.toNat = thI W (dg P v) q.toNat := th_cg (fun j j0 j1 wj => ?_)
        · have := hv.2 q (by omega) q1
          unfold sqP at this ⊢
          rw [ht, de q (by omega) q1]
          exact this
        · by_cases c : j < p
          · have z := qt_s u k
            have a1 := hI u u0 (by rw [qt_s, e1]; omega)
            have a2 := hI v v0 hv.1
            have e3 : ∀ i : Nat, qt u (k + 1 + i) = qt v (k + 1 + i) := by
              intro i
              induction i with
              | zero => show qt u (k + 1) = qt v (k + 1); rw [hv.1, qt_s, e1]; omega
              | succ i ihi => rw [← Nat.add_assoc, qt_s, ihi]; rfl
            unfold dg
            rw [show (P - 1 - j).toNat = k + 1 + (p - 1 - j).toNat by omega, e3]
          · by_cases c2 : j = p
            · rw [c2, w'] at wj; cases wj
            · exact de j (by omega) (by omega)
    · rw [if_neg w]
      have w' : W p = true := by
        cases z : W p with
        | true => rfl
        | false => exact absurd ((hW p p0 (by omega)).mpr z) w
      have key : ∀ (n : Nat) (h : Int), 0 ≤ h → h + n = H → isF (fsH (fun h => if tkB rm F I h p = true then plN rm F Wn H k (p + 1) (l * 4 + h) (inI I h p) else -1) h n) (fun v => qt v (k + 1) = l ∧ h ≤ qt v k % 4 ∧ ∀ q, p ≤ q → q < P → sqP rm F W (dg P v) H q) := by
        intro n
        induction n with
        | zero =>
          intro h h0 hn
          refine Or.inl ⟨rfl, fun v v0 hv => ?_⟩
          have := (hv.2.2 p (by omega) (by omega)).1
          rw [dp] at this
          omega
        | succ n ihn =>
          intro h h0 hn
          rw [fsH_s]
          have i1 := ihn (h + 1) (by omega) (by omega)
          have h4 : h < 4 := by omega
          have A : isF (if tkB rm F I h p = true then plN rm F Wn H k (p + 1) (l * 4 + h) (inI I h p) else -1) (fun v => qt v k = l * 4 + h ∧ ∀ q, p ≤ q → q < P → sqP rm F W (dg P v) H q) := by
            by_cases tk : tkB rm F I h p = true
            · rw [if_pos tk]
              refine (ih (p + 1) (l * 4 + h) (inI I h p) (by omega) (by omega) (by omega) (fun v v0 e => ?_)).cg (fun v v0 => ⟨fun hv => ⟨hv.1, fun q q0 q1 => ?_⟩, fun hv => ⟨hv.1, fun q q0 q1 => hv.2 q (by omega) q1⟩⟩)
              · rw [th_s1 p0 (by omega) w', hI v v0 (by rw [qt_s, e]; omega), dp, e, show (l * 4 + h) % 4 = h by omega]
              · by_cases c : q = p
                · rw [c]
                  unfold sqP
                  rw [hI v v0 (by rw [qt_s, hv.1]; omega), dp, hv.1, show (l * 4 + h) % 4 = h by omega]
                  exact ⟨by omega, fun _ => tk⟩
                · exact hv.2 q (by omega) q1
            · rw [if_neg tk]
              refine Or.inl ⟨rfl, fun v v0 hv => tk ?_⟩
              have := (hv.2 p (by omega) (by omega)).2 w'
              rw [hI v v0 (by rw [qt_s, hv.1]; omega), dp, hv.1, show (l * 4 + h) % 4 = h by omega] at this
              exact this
          refine (A.or i1 (fun a b a0 b0 ha hb => ?_)).cg (fun v v0 => ⟨fun q => ?_, fun q => ?_⟩)
          · refine Classical.byContradiction (fun z => ?_)
            have e1 := qt_le k (show b ≤ a by omega)
            have e2 := ha.1
            have e3 := hb.1
            rw [qt_s] at e3
            have e4 := hb.2.1
            omega
          · rcases q with q | q
            · exact ⟨by rw [qt_s, q.1]; omega, by rw [q.1]; omega, q.2⟩
            · exact ⟨q.1, by have := q.2.1; omega, q.2.2⟩
          · have e3 := q.1
            rw [qt_s] at e3
            by_cases c : qt v k % 4 = h
            · exact Or.inl ⟨by omega, q.2.2⟩
            · exact Or.inr ⟨q.1, by have := q.2.1; omega, q.2.2⟩
      exact (key H.toNat 0 (by omega) (by omega)).cg (fun v v0 => ⟨fun q => ⟨q.1, q.2.2⟩, fun q => ⟨q.1, by have := Int.emod_nonneg (qt v k) (show (4 : Int) ≠ 0 by omega); omega, q.2⟩⟩)
end
