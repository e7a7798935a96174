-- the fewest moves through days
section
variable {d : Nat} {sh : List Kd} {σ : Sto} {Q : Option AV → List Kd → Sto → Prop} {t : Nat} {M : Sto} {Ls : List (List Cl)}
def dgcB (H P : Nat) : Bool := (List.range (H ^ P)).all fun s => (List.range P).all fun p => (List.range H).all fun h =>
  decide (s / H ^ (P - 1 - p) % H * H ^ (P - 1 - p) ≤ s) && decide (s + h * H ^ (P - 1 - p) - s / H ^ (P - 1 - p) % H * H ^ (P - 1 - p) < H ^ P) && (List.range P).all fun q => decide ((s + h * H ^ (P - 1 - p) - s / H ^ (P - 1 - p) % H * H ^ (P - 1 - p)) / H ^ (P - 1 - q) % H = if q = p then h else s / H ^ (P - 1 - q) % H)
def suN (H P s : Nat) : Nat → Nat
  | 0 => 0
  | n + 1 => suN H P s n + s / H ^ (P - 1 - n) % H * H ^ (P - 1 - n)
def suB (H P : Nat) : Bool := (List.range (H ^ P)).all fun s => decide (suN H P s P = s)
theorem dgcB_all : ∀ H : Fin 4, ∀ P : Fin 6, H.val = 0 ∨ P.val = 0 ∨ (dgcB H.val P.val = true ∧ suB H.val P.val = true) := by decide +kernel
/-- the weight of a person, and his house in a state -/
def wt (H P p : Int) : Int := ((H.toNat ^ (P - 1 - p).toNat : Nat) : Int)
def hm (H P s p : Int) : Int := ((s.toNat / H.toNat ^ (P - 1 - p).toNat % H.toNat : Nat) : Int)
def stN (H P : Int) : Int := ((H.toNat ^ P.toNat : Nat) : Int)
theorem hm_b {H P s p : Int} (h : 0 < H) : 0 ≤ hm H P s p ∧ hm H P s p < H := by
  unfold hm
  have := Nat.mod_lt (s.toNat / H.toNat ^ (P - 1 - p).toNat) (show 0 < H.toNat by omega)
  omega
def smP (H P : Int) : Prop := 0 < H ∧ H ≤ 3 ∧ 0 < P ∧ P ≤ 5
theorem st_w {H P s p h : Int} (hp : smP H P) (s0 : 0 ≤ s) (s1 : s < stN H P) (p0 : 0 ≤ p) (p1 : p < P) (h0 : 0 ≤ h) (h1 : h < H) : 0 ≤ s + (h - hm H P s p) * wt H P p ∧ s + (h - hm H P s p) * wt H P p < stN H P ∧ ∀ q, 0 ≤ q → q < P → hm H P (s + (h - hm H P s p) * wt H P p) q = if q = p then h else hm H P s q := by
  obtain ⟨a1, a2, a3, a4⟩ := hp
  have k := dgcB_all ⟨H.toNat, by omega⟩ ⟨P.toNat, by omega⟩
  simp only at k
  rcases k with k | k | k
  · omega
  · omega
  have k := k.1
  unfold dgcB at k
  unfold stN at s1
  rw [List.all_eq_true] at k
  have k := k s.toNat (List.mem_range.mpr (by omega))
  rw [List.all_eq_true] at k
  have k := k p.toNat (List.mem_range.mpr (by omega))
  rw [List.all_eq_true] at k
  have k := k h.toNat (List.mem_range.mpr (by omega))
  rw [Bool.and_eq_true, Bool.and_eq_true, decide_eq_true_eq, decide_eq_true_eq, List.all_eq_true] at k
  obtain ⟨⟨k1, k2⟩, k3⟩ := k
  have pe : (P - 1 - p).toNat = P.toNat - 1 - p.toNat := by omega
  have e : s + (h - hm H P s p) * wt H P p = ((s.toNat + h.toNat * H.toNat ^ (P.toNat - 1 - p.toNat) - s.toNat / H.toNat ^ (P.toNat - 1 - p.toNat) % H.toNat * H.toNat ^ (P.toNat - 1 - p.toNat) : Nat) : Int) := by
    unfold hm wt
    rw [pe]
    generalize H.toNat ^ (P.toNat - 1 - p.toNat) = x at k1 k2 k3 ⊢
    generalize s.toNat / x % H.toNat = y at k1 k2 k3 ⊢
    rw [Int.sub_mul]
    have z1 : ((y * x : Nat) : Int) = (y : Int) * (x : Int) := by norm_cast
    have z2 : ((h.toNat * x : Nat) : Int) = h * (x : Int) := by rw [Int.natCast_mul, show ((h.toNat : Nat) : Int) = h by omega]
    omega
  refine ⟨by rw [e]; exact Int.natCast_nonneg _, by rw [e]; unfold stN; omega, fun q q0 q1 => ?_⟩
  have k3 := k3 q.toNat (List.mem_range.mpr (by omega))
  rw [decide_eq_true_eq] at k3
  rw [e]
  unfold hm
  rw [Int.toNat_natCast, show (P - 1 - q).toNat = P.toNat - 1 - q.toNat by omega, k3]
  by_cases c : q = p
  · rw [if_pos c, if_pos (by omega)]; omega
  · rw [if_neg c, if_neg (by omega)]
/-- people are housed -/
def vd (P H : Int) (D : Int → Int) : Prop := ∀ p, 0 ≤ p → p < P → 0 ≤ D p ∧ D p < H
theorem st_ex {H P : Int} (hp : smP H P) {D : Int → Int} (hD : vd P H D) : ∃ s, 0 ≤ s ∧ s < stN H P ∧ ∀ q, 0 ≤ q → q < P → hm H P s q = D q := by
  have key : ∀ n : Nat, n ≤ P → ∃ s, 0 ≤ s ∧ s < stN H P ∧ ∀ q : Int, 0 ≤ q → q < n → hm H P s q = D q := by
    intro n
    induction n with
    | zero => intro _; exact ⟨0, by omega, by unfold stN; have : 0 < H.toNat ^ P.toNat := Nat.pow_pos (by have := hp.1; omega); omega, fun q q0 q1 => by omega⟩
    | succ n ih =>
      intro hn
      obtain ⟨s, s0, s1, hs⟩ := ih (by omega)
      have := hD n (by omega) (by omega)
      obtain ⟨w0, w1, w2⟩ := st_w hp s0 s1 (show (0 : Int) ≤ n by omega) (show (n : Int) < P by omega) this.1 this.2
      refine ⟨_, w0, w1, fun q q0 q1 => ?_⟩
      rw [w2 q q0 (by omega)]
      by_cases c : q = n
      · rw [if_pos c, c]
      · rw [if_neg c]; exact hs q q0 (by omega)
  obtain ⟨s, s0, s1, hs⟩ := key P.toNat (by have := hp.2.2.1; omega)
  exact ⟨s, s0, s1, fun q q0 q1 => hs q q0 (by omega)⟩
/-- a state as a sum -/
def suW (H P : Int) (D : Int → Int) : Nat → Int
  | 0 => 0
  | n + 1 => suW H P D n + D n * wt H P n
theorem su_eq {H P s : Int} (hp : smP H P) (s0 : 0 ≤ s) (s1 : s < stN H P) : suW H P (hm H P s) P.toNat = s := by
  obtain ⟨a1, a2, a3, a4⟩ := hp
  have k := dgcB_all ⟨H.toNat, by omega⟩ ⟨P.toNat, by omega⟩
  simp only at k
  rcases k with k | k | k
  · omega
  · omega
  have k := k.2
  unfold suB at k
  unfold stN at s1
  rw [List.all_eq_true] at k
  have k := k s.toNat (List.mem_range.mpr (by omega))
  rw [decide_eq_true_eq] at k
  have e : ∀ n : Nat, n ≤ P.toNat → suW H P (hm H P s) n = (suN H.toNat P.toNat s.toNat n : Int) := by
    intro n
    induction n with
    | zero => intro _; rfl
    | succ n ih =>
      intro hn
      rw [suW, suN, ih (by omega)]
      unfold hm wt
      rw [show (P - 1 - (n : Int)).toNat = P.toNat - 1 - n by omega]
      norm_cast
  rw [e _ (Nat.le_refl _), k]
  omega
theorem su_cg {H P : Int} {D D' : Int → Int} : ∀ n : Nat, (∀ q : Int, 0 ≤ q → q < n → D q = D' q) → suW H P D n = suW H P D' n := by
  intro n
  induction n with
  | zero => intro _; rfl
  | succ n ih => intro e; rw [suW, suW, ih (fun q q0 q1 => e q q0 (by omega)), e n (by omega) (by omega)]
theorem st_inj {H P s s' : Int} (hp : smP H P) (s0 : 0 ≤ s) (s1 : s < stN H P) (t0 : 0 ≤ s') (t1 : s' < stN H P) (e : ∀ q, 0 ≤ q → q < P → hm H P s q = hm H P s' q) : s = s' := by
  rw [← su_eq hp s0 s1, ← su_eq hp t0 t1]
  exact su_cg _ (fun q q0 q1 => e q q0 (by have := hp.2.2.1; omega))
theorem su_st {H P : Int} (hp : smP H P) {D : Int → Int} (hD : vd P H D) : 0 ≤ suW H P D P.toNat ∧ suW H P D P.toNat < stN H P ∧ ∀ q, 0 ≤ q → q < P → hm H P (suW H P D P.toNat) q = D q := by
  obtain ⟨s, s0, s1, hs⟩ := st_ex hp hD
  have := su_eq hp s0 s1
  rw [su_cg (D' := D) _ (fun q q0 q1 => hs q q0 (by have := hp.2.2.1; omega))] at this
  rw [this]
  exact ⟨s0, s1, hs⟩
/-- in how many houses two livings differ -/
def hmg (D D' : Int → Int) : Nat → Int
  | 0 => 0
  | n + 1 => hmg D D' n + (if D n = D' n then 0 else 1)
theorem hmg_b {D D' : Int → Int} : ∀ n : Nat, 0 ≤ hmg D D' n ∧ hmg D D' n ≤ n := by
  intro n
  induction n with
  | zero => exact ⟨Int.le_refl _, Int.le_refl _⟩
  | succ n ih => rw [hmg]; split <;> omega
theorem hmg_t {A B C : Int → Int} : ∀ n : Nat, hmg A C n ≤ hmg A B n + hmg B C n := by
  intro n
  induction n with
  | zero => exact Int.le_refl _
  | succ n ih =>
    rw [hmg, hmg, hmg]
    by_cases c1 : A n = B n
    · by_cases c2 : B n = C n
      · rw [if_pos (c1.trans c2), if_pos c1, if_pos c2]; omega
      · rw [if_pos c1, if_neg c2]; split <;> omega
    · rw [if_neg c1]; split <;> split <;> omega
theorem hmg_0 {A : Int → Int} : ∀ n : Nat, hmg A A n = 0 := by
  intro n
  induction n with
  | zero => rfl
  | succ n ih => rw [hmg, ih, if_pos rfl]; rfl
theorem hmg_cg {A A' B B' : Int → Int} : ∀ n : Nat, (∀ q : Int, 0 ≤ q → q < n → A q = A' q ∧ B q = B' q) → hmg A B n = hmg A' B' n := by
  intro n
  induction n with
  | zero => intro _; rfl
  | succ n ih => intro e; have := e n (by omega) (by omega); rw [hmg, hmg, ih (fun q q0 q1 => e q q0 (by omega)), this.1, this.2]
def set1 (D : Int → Int) (p h : Int) : Int → Int := fun q => if q = p then h else D q
def mnH (g : Int → Int) : Nat → Int
  | 0 => 1000000
  | n + 1 => min (mnH g n) (g n)
theorem mnH_le {g : Int → Int} : ∀ n : Nat, mnH g n ≤ 1000000 ∧ ∀ i : Int, 0 ≤ i → i < n → mnH g n ≤ g i := by
  intro n
  induction n with
  | zero => exact ⟨Int.le_refl _, fun i i0 i1 => by omega⟩
  | succ n ih =>
    rw [mnH]
    refine ⟨by omega, fun i i0 i1 => ?_⟩
    by_cases c : i = n
    · rw [c]; omega
    · have := ih.2 i i0 (by omega); omega
theorem mnH_ex {g : Int → Int} : ∀ n : Nat, mnH g n = 1000000 ∨ ∃ i : Int, 0 ≤ i ∧ i < n ∧ mnH g n = g i := by
  intro n
  induction n with
  | zero => exact Or.inl rfl
  | succ n ih =>
    rw [mnH]
    by_cases c : mnH g n ≤ g n
    · rw [show min (mnH g n) (g n) = mnH g n by omega]
      rcases ih with h | ⟨i, i0, i1, h⟩
      · exact Or.inl h
      · exact Or.inr ⟨i, i0, by omega, h⟩
    · exact Or.inr ⟨n, by omega, by omega, by omega⟩
theorem mnH_cg {g g' : Int → Int} : ∀ n : Nat, (∀ i : Int, 0 ≤ i → i < n → g i = g' i) → mnH g n = mnH g' n := by
  intro n
  induction n with
  | zero => intro _; rfl
  | succ n ih => intro e; rw [mnH, mnH, ih (fun q q0 q1 => e q q0 (by omega)), e n (by omega) (by omega)]
def sp1 (H p : Int) (f : (Int → Int) → Int) (D : Int → Int) : Int := min (f D) (mnH (fun h => f (set1 D p h)) H.toNat + 1)
def spr (H : Int) (f : (Int → Int) → Int) : Nat → (Int → Int) → Int
  | 0 => f
  | n + 1 => sp1 H n (spr H f n)
def exF (P : Int) (f : (Int → Int) → Int) : Prop := ∀ D D', (∀ p, 0 ≤ p → p < P → D p = D' p) → f D = f D'
def bdF (f : (Int → Int) → Int) : Prop := ∀ D, 0 ≤ f D ∧ f D ≤ 1000000
theorem mnH_nn {g : Int → Int} (n : Nat) (h : ∀ i, 0 ≤ g i) : 0 ≤ mnH g n := by
  rcases mnH_ex (g := g) n with e | ⟨i, _, _, e⟩
  · rw [e]; omega
  · rw [e]; exact h i
theorem sp1_bd {H p : Int} {f : (Int → Int) → Int} (h : bdF f) : bdF (sp1 H p f) := fun D => by
  have a := h D
  have b := mnH_nn (g := fun h => f (set1 D p h)) H.toNat (fun i => (h _).1)
  unfold sp1
  omega
theorem sp1_ex {H P p : Int} {f : (Int → Int) → Int} (h : exF P f) : exF P (sp1 H p f) := fun D D' e => by
  unfold sp1
  rw [h D D' e, mnH_cg H.toNat (fun i _ _ => h (set1 D p i) (set1 D' p i) (fun q q0 q1 => by unfold set1; rw [e q q0 q1]))]
theorem spr_bd {H : Int} {f : (Int → Int) → Int} (h : bdF f) : ∀ n : Nat, bdF (spr H f n) := by
  intro n
  induction n with
  | zero => exact h
  | succ n ih => exact sp1_bd ih
theorem spr_ex {H P : Int} {f : (Int → Int) → Int} (h : exF P f) : ∀ n : Nat, exF P (spr H f n) := by
  intro n
  induction n with
  | zero => exact h
  | succ n ih => exact sp1_ex ih
theorem set1_lo {D : Int → Int} {p h q : Int} (c : ¬ q = p) : set1 D p h q = D q := if_neg c
theorem set1_at {D : Int → Int} {p h : Int} : set1 D p h p = h := if_pos rfl
theorem set1_vd {P H p h : Int} {D : Int → Int} (hD : vd P H D) (h0 : 0 ≤ h) (h1 : h < H) : vd P H (set1 D p h) := fun q q0 q1 => by
  by_cases c : q = p
  · rw [c, set1_at]; exact ⟨h0, h1⟩
  · rw [set1_lo c]; exact hD q q0 q1
theorem spr_mn {H P : Int} {f : (Int → Int) → Int} (hb : bdF f) (hx : exF P f) : ∀ (n : Nat), n ≤ P → ∀ D, vd P H D → (∀ U, vd P H U → (∀ q : Int, n ≤ q → q < P → U q = D q) → spr H f n D ≤ f U + hmg U D n) ∧ (spr H f n D = 1000000 ∨ ∃ U, vd P H U ∧ (∀ q : Int, n ≤ q → q < P → U q = D q) ∧ spr H f n D = f U + hmg U D n) := by
  intro n
  induction n with
  | zero =>
    intro _ D hD
    refine ⟨fun U hU e => ?_, Or.inr ⟨D, hD, fun _ _ _ => rfl, (Int.add_zero _).symm⟩⟩
    rw [hx U D (fun q q0 q1 => e q (by omega) q1)]
    show f D ≤ f D + 0
    omega
  | succ n ih =>
    intro hn D hD
    have ihn := ih (by omega)
    have bd := spr_bd (H := H) hb n
    have ex := spr_ex (H := H) hx n
    rw [spr]
    generalize spr H f n = g at ihn bd ex
    have low : ∀ U h, hmg U (set1 D n h) n = hmg U D n := fun U h => hmg_cg n (fun q q0 q1 => ⟨rfl, set1_lo (by omega)⟩)
    unfold sp1
    constructor
    · intro U hU e
      rw [hmg]
      by_cases c : U n = D n
      · rw [if_pos c]
        have := (ihn D hD).1 U hU (fun q q0 q1 => by
          by_cases z : q = n
          · rw [z]; exact c
          · exact e q (by omega) q1)
        omega
      · rw [if_neg c]
        have un := hU n (by omega) (by omega)
        have := (ihn (set1 D n (U n)) (set1_vd hD un.1 un.2)).1 U hU (fun q q0 q1 => by
          by_cases z : q = n
          · rw [z, set1_at]
          · rw [set1_lo z]; exact e q (by omega) q1)
        rw [low] at this
        have m := (mnH_le (g := fun h => g (set1 D n h)) H.toNat).2 (U n) un.1 (by omega)
        try dsimp only at m
        omega
    · have gb := bd D
      by_cases c : g D ≤ mnH (fun h => g (set1 D n h)) H.toNat + 1
      · rw [show min (g D) (mnH (fun h => g (set1 D n h)) H.toNat + 1) = g D by omega]
        rcases (ihn D hD).2 with h | ⟨U, hU, e, h⟩
        · exact Or.inl h
        · refine Or.inr ⟨U, hU, fun q q0 q1 => e q (by omega) q1, ?_⟩
          rw [hmg, if_pos (e n (by omega) (by omega))]
          omega
      · rw [show min (g D) (mnH (fun h => g (set1 D n h)) H.toNat + 1) = mnH (fun h => g (set1 D n h)) H.toNat + 1 by omega]
        rcases mnH_ex (g := fun h => g (set1 D n h)) H.toNat with h | ⟨j, j0, j1, h⟩
        · omega
        · try dsimp only at h
          rcases (ihn (set1 D n j) (set1_vd hD j0 (by omega))).2 with h' | ⟨U, hU, e, h'⟩
          · omega
          · have nj : ¬ j = D n := by
              intro z
              have : g (set1 D n j) = g D := ex _ _ (fun q q0 q1 => by
                by_cases y : q = n
                · rw [y, set1_at]; exact z
                · exact set1_lo y)
              omega
            refine Or.inr ⟨U, hU, fun q q0 q1 => by rw [e q (by omega) q1]; exact set1_lo (by omega), ?_⟩
            have un := e n (by omega) (by omega)
            rw [set1_at] at un
            rw [low] at h'
            rw [hmg, un, if_neg nj]
            omega
/-- the least of all -/
def mnP (P H : Int) (f : (Int → Int) → Int) (D : Int → Int) (x : Int) : Prop := x ≤ 1000000 ∧ (∀ U, vd P H U → x ≤ f U + hmg U D P.toNat) ∧ (x = 1000000 ∨ ∃ U, vd P H U ∧ x = f U + hmg U D P.toNat)
theorem mnP.un {P H x y : Int} {f : (Int → Int) → Int} {D : Int → Int} (h : mnP P H f D x) (h' : mnP P H f D y) : x = y := by
  obtain ⟨a1, a2, a3⟩ := h
  obtain ⟨b1, b2, b3⟩ := h'
  have l1 : x ≤ y := by
    rcases b3 with e | ⟨U, hU, e⟩
    · omega
    · rw [e]; exact a2 U hU
  have l2 : y ≤ x := by
    rcases a3 with e | ⟨U, hU, e⟩
    · omega
    · rw [e]; exact b2 U hU
  omega
theorem spr_P {H P : Int} {f : (Int → Int) → Int} (h0 : 0 ≤ P) (hb : bdF f) (hx : exF P f) {D : Int → Int} (hD : vd P H D) : mnP P H f D (spr H f P.toNat D) := by
  obtain ⟨a, b⟩ := spr_mn hb hx P.toNat (by omega) D hD
  refine ⟨(spr_bd hb P.toNat D).2, fun U hU => a U hU (fun q q0 q1 => by omega), ?_⟩
  rcases b with e | ⟨U, hU, _, e⟩
  · exact Or.inl e
  · exact Or.inr ⟨U, hU, e⟩
/-- lawful on a day -/
def gdD (M : Sto) (Ls : List (List Cl)) (x : Int) (D : Int → Int) : Bool := laB (M 3) (todF M Ls x) alW D (M 0 0) (M 0 1)
def mvF (M : Sto) (Ls : List (List Cl)) : Nat → (Int → Int) → Int
  | 0, D => if gdD M Ls (M 0 2) D = true then hmg (M 2) D (M 0 0).toNat else 1000000
  | k + 1, D => if gdD M Ls (M 0 2 + (k + 1 : Nat)) D = true then spr (M 0 1) (mvF M Ls k) (M 0 0).toNat D else 1000000
theorem gdD_cg {x : Int} (w : wfM M Ls) {D D' : Int → Int} (e : ∀ p, 0 ≤ p → p < M 0 0 → D p = D' p) : gdD M Ls x D = gdD M Ls x D' := laB_cg w.sc.1 (fun _ _ _ => rfl) (fun _ _ _ => rfl) (fun _ _ _ => rfl) e
theorem mvF_bd (w : wfM M Ls) : ∀ k, bdF (mvF M Ls k) := by
  have u := w.sc
  intro k
  induction k with
  | zero =>
    intro D
    rw [mvF]
    have := hmg_b (D := M 2) (D' := D) (M 0 0).toNat
    split <;> omega
  | succ k ih =>
    intro D
    rw [mvF]
    have := spr_bd (H := M 0 1) ih (M 0 0).toNat D
    split <;> omega
theorem mvF_ex (w : wfM M Ls) : ∀ k, exF (M 0 0) (mvF M Ls k) := by
  have u := w.sc
  intro k
  induction k with
  | zero =>
    intro D D' e
    rw [mvF, mvF, gdD_cg w e, hmg_cg (M 0 0).toNat (fun q q0 q1 => ⟨rfl, e q q0 (by omega)⟩)]
  | succ k ih =>
    intro D D' e
    rw [mvF, mvF, gdD_cg w e, spr_ex ih (M 0 0).toNat D D' e]
theorem mvF_no (w : wfM M Ls) : ∀ k : Nat, ∀ D, gdD M Ls (M 0 2 + (k : Int)) D = false → mvF M Ls k D = 1000000 := by
  intro k D h
  cases k with
  | zero =>
    rw [show M 0 2 + ((0 : Nat) : Int) = M 0 2 by omega] at h
    rw [mvF, h]; rfl
  | succ k => rw [mvF, h]; rfl
theorem mvF_lip (w : wfM M Ls) : ∀ k : Nat, ∀ D U, vd (M 0 0) (M 0 1) D → vd (M 0 0) (M 0 1) U → gdD M Ls (M 0 2 + (k : Int)) D = true → gdD M Ls (M 0 2 + (k : Int)) U = true → mvF M Ls k D ≤ mvF M Ls k U + hmg U D (M 0 0).toNat := by
  have u := w.sc
  intro k
  cases k with
  | zero =>
    intro D U hD hU gD gU
    rw [show M 0 2 + ((0 : Nat) : Int) = M 0 2 by omega] at gD gU
    rw [mvF, mvF, if_pos gD, if_pos gU]
    exact hmg_t _
  | succ k =>
    intro D U hD hU gD gU
    rw [mvF, mvF, if_pos gD, if_pos gU]
    obtain ⟨a1, a2, a3⟩ := spr_P u.1 (mvF_bd w k) (mvF_ex w k) hD
    obtain ⟨b1, b2, b3⟩ := spr_P u.1 (mvF_bd w k) (mvF_ex w k) hU
    have hb := hmg_b (D := U) (D' := D) (M 0 0).toNat
    rcases b3 with e | ⟨V, hV, e⟩
    · omega
    · rw [e]
      have := a2 V hV
      have := hmg_t (A := V) (B := U) (C := D) (M 0 0).toNat
      omega
theorem mvF_same (w : wfM M Ls) {k : Nat} (hs : ∀ D, vd (M 0 0) (M 0 1) D → gdD M Ls (M 0 2 + ((k + 1 : Nat) : Int)) D = gdD M Ls (M 0 2 + (k : Int)) D) : ∀ D, vd (M 0 0) (M 0 1) D → mvF M Ls (k + 1) D = mvF M Ls k D := by
  have u := w.sc
  intro D hD
  cases g : gdD M Ls (M 0 2 + (k : Int)) D with
  | false => rw [mvF_no w k D g, mvF_no w (k + 1) D (by rw [hs D hD]; exact g)]
  | true =>
    rw [mvF, if_pos (by rw [hs D hD]; exact g)]
    refine (spr_P u.1 (mvF_bd w k) (mvF_ex w k) hD).un ⟨(mvF_bd w k D).2, fun U hU => ?_, Or.inr ⟨D, hD, by rw [hmg_0]; omega⟩⟩
    cases gU : gdD M Ls (M 0 2 + (k : Int)) U with
    | false =>
      rw [mvF_no w k U gU]
      have := hmg_b (D := U) (D' := D) (M 0 0).toNat
      have := (mvF_bd w k D).2
      omega
    | true => exact mvF_lip w k D U hD hU g gU
def mvZ (M : Sto) (Ls : List (List Cl)) (n : Int) : Int := mnH (fun s => mvF M Ls (n - 1).toNat (hm (M 0 1) (M 0 0) s)) (stN (M 0 1) (M 0 0)).toNat
def aMoves (M : Sto) (Ls : List (List Cl)) (n : Int) : Int := if 0 < M 0 0 ∧ M 0 0 ≤ 5 ∧ M 0 1 ≤ 3 then (if 1 ≤ n ∧ n ≤ 720 then (if mvZ M Ls n < 1000000 then mvZ M Ls n else -1) else -1) else -1
end
