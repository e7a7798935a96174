-- the best living
section
variable {d : Nat} {sh : List Kd} {σ : Sto} {Q : Option AV → List Kd → Sto → Prop} {t : Nat} {M : Sto} {Ls : List (List Cl)}
def q5 (v : Int) : Nat → Int
  | 0 => v
  | n + 1 => q5 v n / 5
theorem q5_s (v : Int) (n : Nat) : q5 v (n + 1) = q5 v n / 5 := rfl
theorem q5_c (v : Int) : ∀ n, q5 v (n + 1) = q5 (v / 5) n := by
  intro n
  induction n with
  | zero => rfl
  | succ n ih => rw [q5_s, ih, q5_s]
theorem q5_a (v : Int) (k : Nat) : ∀ n, q5 v (k + n) = q5 (q5 v k) n := by
  intro n
  induction n with
  | zero => rfl
  | succ n ih => rw [← Nat.add_assoc, q5_s, ih, q5_s]
theorem q5_le : ∀ (n : Nat) {v u : Int}, v ≤ u → q5 v n ≤ q5 u n := by
  intro n
  induction n with
  | zero => intro v u h; exact h
  | succ n ih => intro v u h; have := ih h; rw [q5_s, q5_s]; omega
/-- the house of a person in a best living, -1 for none -/
def dl (P v p : Int) : Int := q5 v (P - 1 - p).toNat % 5 - 1
theorem dl_b {P v p : Int} : -1 ≤ dl P v p ∧ dl P v p ≤ 3 := by unfold dl; omega
theorem dl_pre {P v p q l : Int} {k : Nat} (hk : P - p = k) (e : q5 v k = l) (h1 : q < p) : dl P v q = dl p l q := by
  unfold dl
  rw [show (P - 1 - q).toNat = k + (p - 1 - q).toNat by omega, q5_a, e]
theorem dl_at {P v p l : Int} {k : Nat} (hk : P - p = k + 1) (e : q5 v k = l) : dl P v p = l % 5 - 1 := by
  unfold dl
  rw [show (P - 1 - p).toNat = k by omega, e]
theorem dl_in {p l x q : Int} (h0 : 0 ≤ x ∧ x < 5) (h1 : q < p) : dl (p + 1) (l * 5 + x) q = dl p l q :=
  dl_pre (P := p + 1) (k := 1) (by omega) (by show (l * 5 + x) / 5 = l; omega) h1
theorem dl_nw {p l x : Int} (h0 : 0 ≤ x ∧ x < 5) : dl (p + 1) (l * 5 + x) p = x - 1 := by
  rw [dl_at (k := 0) (by omega) rfl]
  show (l * 5 + x) % 5 - 1 = x - 1
  omega
/-- what a living gains -/
def smD (M : Sto) (D : Int → Int) : Nat → Int
  | 0 => 0
  | n + 1 => smD M D n + gaM M n (D n)
theorem sm_cg {D D' : Int → Int} : ∀ (n : Nat), (∀ q : Int, 0 ≤ q → q < n → D q = D' q) → smD M D n = smD M D' n := by
  intro n
  induction n with
  | zero => intro _; rfl
  | succ n ih => intro e; rw [smD, smD, ih (fun q q0 q1 => e q q0 (by omega)), e n (by omega) (by omega)]
/-- a search over some livings has gone from (b, l) to (b', l') -/
def bmS (s : Int → Int) (S : Int → Prop) (b l b' l' : Int) : Prop := (b' = b ∧ l' = l ∧ ∀ v, 0 ≤ v → S v → s v ≤ b) ∨ (b < b' ∧ 0 ≤ l' ∧ S l' ∧ s l' = b' ∧ ∀ v, 0 ≤ v → S v → s v ≤ b' ∧ (v < l' → s v < b'))
theorem bmS.cg {s : Int → Int} {S S' : Int → Prop} {b l b' l' : Int} (h : bmS s S b l b' l') (e : ∀ v, 0 ≤ v → (S v ↔ S' v)) : bmS s S' b l b' l' := by
  rcases h with ⟨h1, h2, h3⟩ | ⟨h1, h2, h3, h4, h5⟩
  · exact Or.inl ⟨h1, h2, fun v v0 q => h3 v v0 ((e v v0).mpr q)⟩
  · exact Or.inr ⟨h1, h2, (e l' h2).mp h3, h4, fun v v0 q => h5 v v0 ((e v v0).mpr q)⟩
theorem bmS.no {s : Int → Int} {S : Int → Prop} {b l : Int} (h : ∀ v, 0 ≤ v → ¬ S v) : bmS s S b l b l := Or.inl ⟨rfl, rfl, fun v v0 q => absurd q (h v v0)⟩
theorem bmS.tr {s : Int → Int} {A B : Int → Prop} {b l b' l' b2 l2 : Int} (h : bmS s A b l b' l') (h' : bmS s B b' l' b2 l2) (hab : ∀ x y, 0 ≤ x → 0 ≤ y → A x → B y → x < y) : bmS s (fun v => A v ∨ B v) b l b2 l2 := by
  rcases h with ⟨h1, h2, h3⟩ | ⟨h1, h2, h3, h4, h5⟩ <;> rcases h' with ⟨k1, k2, k3⟩ | ⟨k1, k2, k3, k4, k5⟩
  · refine Or.inl ⟨by omega, by omega, fun v v0 q => ?_⟩
    rcases q with q | q
    · exact h3 v v0 q
    · have := k3 v v0 q; omega
  · refine Or.inr ⟨by omega, k2, Or.inr k3, k4, fun v v0 q => ?_⟩
    rcases q with q | q
    · have := h3 v v0 q; exact ⟨by omega, fun _ => by omega⟩
    · exact k5 v v0 q
  · refine Or.inr ⟨by omega, by omega, Or.inl (by rw [k2]; exact h3), by rw [k2]; omega, fun v v0 q => ?_⟩
    rcases q with q | q
    · have := h5 v v0 q; rw [k1, k2]; exact this
    · have a := k3 v v0 q
      have c := hab l' v h2 v0 h3 q
      exact ⟨by omega, fun z => by omega⟩
  · refine Or.inr ⟨by omega, k2, Or.inr k3, k4, fun v v0 q => ?_⟩
    rcases q with q | q
    · have := (h5 v v0 q).1; exact ⟨by omega, fun _ => by omega⟩
    · exact k5 v v0 q
theorem best_eq {s : Int → Int} {S S' : Int → Prop} {b l b' l' c k c' k' : Int} (h : bmS s S b l b' l') (h' : bmS s S' c k c' k') (z : S 0) (zb : b < s 0) (zc : c < s 0) (e1 : ∀ v, 0 ≤ v → S v → S' v) (e2 : ∀ v, 0 ≤ v → S' v → ∃ u, 0 ≤ u ∧ u ≤ v ∧ S u ∧ s v ≤ s u) : b' = c' ∧ l' = k' := by
  rcases h with ⟨h1, h2, h3⟩ | ⟨h1, h2, h3, h4, h5⟩
  · have := h3 0 (by omega) z; omega
  rcases h' with ⟨g1, g2, g3⟩ | ⟨g1, g2, g3, g4, g5⟩
  · have := g3 0 (by omega) (e1 0 (by omega) z); omega
  obtain ⟨u, u0, u1, u2, u3⟩ := e2 k' g2 g3
  have a1 := g5 u u0 (e1 u u0 u2)
  have a2 := h5 u u0 u2
  have a3 := g5 l' h2 (e1 l' h2 h3)
  have a4 : u = k' := by
    refine Classical.byContradiction (fun q => ?_)
    have := a1.2 (by omega); omega
  have a5 : b' = c' := by omega
  refine ⟨a5, ?_⟩
  rcases Int.lt_trichotomy l' k' with q | q | q
  · have := a3.2 q; omega
  · exact q
  · have := a2.2 (by omega); omega
/-- who lives where, all people -/
def alW : Int → Bool := fun _ => true
def rmL (M : Sto) : Int → Int := M 3
def todF (M : Sto) (Ls : List (List Cl)) (x : Int) : Int → Int := fun p => (tdN M Ls x p : Int)
/-- a step of the class's search -/
def gdP (M : Sto) (F : Int → Int) (D : Int → Int) (q : Int) : Prop := D q < M 0 1 ∧ (0 ≤ D q → 0 < gaM M q (D q) ∧ tkB (M 3) F (thI alW D q.toNat) (D q) q = true)
def sbC (M : Sto) (F : Int → Int) (p l : Int) (k : Nat) (v : Int) : Prop := q5 v k = l ∧ ∀ q, p ≤ q → q < M 0 0 → gdP M F (dl (M 0 0) v) q
def sbR (M : Sto) (F : Int → Int) (p l : Int) (k : Nat) (v : Int) : Prop := q5 v k = l ∧ (∀ q, p ≤ q → q < M 0 0 → dl (M 0 0) v q < M 0 1) ∧ laB (M 3) F alW (dl (M 0 0) v) (M 0 0) (M 0 1) = true
def sV (M : Sto) (v : Int) : Int := smD M (dl (M 0 0) v) (M 0 0).toNat
theorem q5_flt : ∀ (n : Nat) (fl : Nat → Int → Int), (∀ i x, 0 ≤ x → x < 5 → 0 ≤ fl i x ∧ fl i x ≤ x) → ∀ v, 0 ≤ v → ∃ u, 0 ≤ u ∧ u ≤ v ∧ q5 u n = q5 v n ∧ ∀ i, i < n → q5 u i % 5 = fl i (q5 v i % 5) := by
  intro n
  induction n with
  | zero => intro fl _ v v0; exact ⟨v, v0, by omega, rfl, fun i h => absurd h (by omega)⟩
  | succ n ih =>
    intro fl hf v v0
    obtain ⟨u, u0, u1, e1, e2⟩ := ih (fun i => fl (i + 1)) (fun i => hf (i + 1)) (v / 5) (by omega)
    have b := hf 0 (v % 5) (by omega) (by omega)
    have e5 : (5 * u + fl 0 (v % 5)) / 5 = u := by omega
    refine ⟨5 * u + fl 0 (v % 5), by omega, by omega, by rw [q5_c, q5_c, e5]; exact e1, fun i hi => ?_⟩
    cases i with
    | zero => show (5 * u + fl 0 (v % 5)) % 5 = fl 0 (v % 5); omega
    | succ i => rw [q5_c, q5_c, e5]; exact e2 i (by omega)
theorem bc_sub {f g : Int → Bool} : ∀ n : Nat, n ≤ 6 → (∀ q : Int, 0 ≤ q → q < n → f q = true → g q = true) → bc (seN f n : Int) ≤ bc (seN g n : Int) := by
  intro n
  induction n with
  | zero => intro _ _; exact Int.le_refl _
  | succ n ih =>
    intro hn e
    have i1 := ih (by omega) (fun q q0 q1 => e q q0 (by omega))
    rw [bc_s (by omega), bc_s (by omega)]
    by_cases c : f n = true
    · rw [if_pos c, if_pos (e n (by omega) (by omega) c)]; omega
    · rw [if_neg c]; split <;> omega
theorem la_sub {rm F : Int → Int} {fo : Int → Int → Bool} {D D' : Int → Int} {P H : Int} (h0 : 0 ≤ P) (h6 : P ≤ 6) (hF : foP F fo P) (e : ∀ q, 0 ≤ q → q < P → 0 ≤ D q → D q = D' q) (h : laB rm F alW D' P H = true) : laB rm F alW D P H = true := by
  rw [laB_iff] at h ⊢
  intro j j0 j1
  have := h j j0 j1
  rw [okH_iff h0] at this ⊢
  have sb : ∀ q, 0 ≤ q → q < P → (alW q && decide (D q = j)) = true → (alW q && decide (D' q = j)) = true := fun q q0 q1 z => by
    rw [Bool.and_eq_true, decide_eq_true_eq] at z ⊢
    exact ⟨z.1, by rw [← e q q0 q1 (by omega)]; exact z.2⟩
  constructor
  · have := bc_sub (f := fun q => alW q && decide (D q = j)) (g := fun q => alW q && decide (D' q = j)) P.toNat (by omega) (fun q q0 q1 => sb q q0 (by omega))
    unfold th at *
    omega
  · intro p p0 p1 w ep
    have z := this.2 p p0 p1 w (by rw [← e p p0 p1 (by omega)]; exact ep)
    unfold th at z ⊢
    rw [za_iff h0 h6 (hF.1 p p0 p1)] at z ⊢
    exact fun v v0 v1 y => z v v0 v1 (sb v v0 v1 y)
theorem sm_le {D D' : Int → Int} : ∀ (n : Nat), (∀ q : Int, 0 ≤ q → q < n → gaM M q (D q) ≤ gaM M q (D' q)) → smD M D n ≤ smD M D' n := by
  intro n
  induction n with
  | zero => intro _; exact Int.le_refl _
  | succ n ih => intro e; have := ih (fun q q0 q1 => e q q0 (by omega)); have := e n (by omega) (by omega); rw [smD, smD]; omega
theorem gaM_n {p : Int} : gaM M p (-1) = 0 := by unfold gaM; rw [if_pos rfl]
theorem fl_b {p : Prop} [Decidable p] {z : Int} (z0 : 0 ≤ z) (z1 : z < 5) : 0 ≤ (if z = 0 then 0 else if p then z else 0) ∧ (if z = 0 then 0 else if p then z else 0) ≤ z := by
  by_cases c1 : z = 0
  · rw [if_pos c1]; omega
  · rw [if_neg c1]; split <;> omega
theorem best_same {x b l b' l' c k c' k' : Int} (w : wfM M Ls) (hp : 0 < M 0 0) (h : bmS (sV M) (sbC M (todF M Ls x) 0 0 (M 0 0).toNat) b l b' l') (h' : bmS (sV M) (sbR M (todF M Ls x) 0 0 (M 0 0).toNat) c k c' k') (hb : b < 0) (hc : c < 0) : b' = c' ∧ l' = k' := by
  have u := w.sc
  have q50 : ∀ n, q5 0 n = 0 := by
    intro n
    induction n with
    | zero => rfl
    | succ n ih => rw [q5_s, ih]; rfl
  have d0 : ∀ q, dl (M 0 0) 0 q = -1 := fun q => by unfold dl; rw [q50]; rfl
  have s0 : sV M 0 = 0 := by
    unfold sV
    have : ∀ n, smD M (dl (M 0 0) 0) n = 0 := by
      intro n
      induction n with
      | zero => rfl
      | succ n ih => rw [smD, ih, d0, gaM_n]; rfl
    exact this _
  have li : ∀ D, (∀ q, 0 ≤ q → q < M 0 0 → alW q = true → 0 ≤ D q → D q < M 0 1 → tkB (M 3) (todF M Ls x) (thI alW D q.toNat) (D q) q = true) ↔ laB (M 3) (todF M Ls x) alW D (M 0 0) (M 0 1) = true := fun D => law_iff u.1 u.2.1 (td_fo w) (fun h h0 h1 => by have := w.ho h0 h1; omega)
  refine best_eq h h' ⟨q50 _, fun q q0 q1 => ⟨by rw [d0]; have := u.2.2.2.2.1 hp; omega, fun z => by rw [d0] at z; omega⟩⟩ (by rw [s0]; exact hb) (by rw [s0]; exact hc) (fun v v0 hv => ⟨hv.1, fun q q0 q1 => (hv.2 q q0 q1).1, ?_⟩) (fun v v0 hv => ?_)
  · rw [← li]
    exact fun q q0 q1 _ z _ => ((hv.2 q q0 q1).2 z).2
  · obtain ⟨y, y0, y1, e1, e2⟩ := q5_flt (M 0 0).toNat (fun i z => if z = 0 then 0 else if 0 < gaM M (M 0 0 - 1 - i) (z - 1) then z else 0) (fun i z z0 z1 => fl_b z0 z1) v v0
    have dy : ∀ q, 0 ≤ q → q < M 0 0 → dl (M 0 0) y q = if dl (M 0 0) v q = -1 then -1 else if 0 < gaM M q (dl (M 0 0) v q) then dl (M 0 0) v q else -1 := by
      intro q q0 q1
      unfold dl
      rw [e2 _ (by omega), show M 0 0 - 1 - ((M 0 0 - 1 - q).toNat : Int) = q by omega]
      generalize q5 v (M 0 0 - 1 - q).toNat % 5 = z
      by_cases c1 : z = 0
      · rw [if_pos c1, if_pos (show z - 1 = -1 by omega)]; omega
      · rw [if_neg c1, if_neg (show ¬ z - 1 = -1 by omega)]
        by_cases c2 : 0 < gaM M q (z - 1)
        · rw [if_pos c2, if_pos c2]
        · rw [if_neg c2, if_neg c2]; omega
    have la : laB (M 3) (todF M Ls x) alW (dl (M 0 0) y) (M 0 0) (M 0 1) = true := la_sub u.1 u.2.1 (td_fo w) (fun q q0 q1 z => by
      rw [dy q q0 q1] at z ⊢
      by_cases c1 : dl (M 0 0) v q = -1
      · rw [if_pos c1, c1]
      · rw [if_neg c1] at z ⊢
        by_cases c2 : 0 < gaM M q (dl (M 0 0) v q)
        · rw [if_pos c2]
        · rw [if_neg c2] at z; omega) hv.2.2
    rw [← li] at la
    refine ⟨y, y0, y1, ⟨by rw [e1]; exact hv.1, fun q q0 q1 => ?_⟩, sm_le _ (fun q q0 q1 => ?_)⟩
    · have hd : dl (M 0 0) y q < M 0 1 := by
        have := hv.2.1 q q0 q1
        have := u.2.2.2.2.1 hp
        rw [dy q q0 q1]
        by_cases c1 : dl (M 0 0) v q = -1
        · rw [if_pos c1]; omega
        · rw [if_neg c1]; split <;> omega
      refine ⟨hd, fun z => ⟨?_, la q q0 q1 rfl z hd⟩⟩
      rw [dy q q0 q1] at z ⊢
      by_cases c1 : dl (M 0 0) v q = -1
      · rw [if_pos c1] at z; omega
      · rw [if_neg c1] at z ⊢
        by_cases c2 : 0 < gaM M q (dl (M 0 0) v q)
        · rw [if_pos c2]; exact c2
        · rw [if_neg c2] at z; omega
    · rw [dy q q0 (by omega)]
      by_cases c1 : dl (M 0 0) v q = -1
      · rw [if_pos c1, c1]; exact Int.le_refl _
      · rw [if_neg c1]
        by_cases c2 : 0 < gaM M q (dl (M 0 0) v q)
        · rw [if_pos c2]; exact Int.le_refl _
        · rw [if_neg c2, gaM_n]; omega
theorem bmS.un {s : Int → Int} {S : Int → Prop} {b l b1 l1 b2 l2 : Int} (h : bmS s S b l b1 l1) (h' : bmS s S b l b2 l2) : b1 = b2 ∧ l1 = l2 := by
  rcases h with ⟨h1, h2, h3⟩ | ⟨h1, h2, h3, h4, h5⟩ <;> rcases h' with ⟨k1, k2, k3⟩ | ⟨k1, k2, k3, k4, k5⟩
  · omega
  · have := h3 l2 k2 k3; omega
  · have := k3 l1 h2 h3; omega
  · have a := h5 l2 k2 k3
    have c := k5 l1 h2 h3
    refine ⟨by omega, ?_⟩
    rcases Int.lt_trichotomy l1 l2 with q | q | q
    · have := c.2 q; omega
    · exact q
    · have := a.2 q; omega
theorem z_R {x : Int} (w : wfM M Ls) (hp : 0 < M 0 0) : sbR M (todF M Ls x) 0 0 (M 0 0).toNat 0 ∧ sV M 0 = 0 := by
  have u := w.sc
  have q50 : ∀ n, q5 0 n = 0 := by
    intro n
    induction n with
    | zero => rfl
    | succ n ih => rw [q5_s, ih]; rfl
  have d0 : ∀ q, dl (M 0 0) 0 q = -1 := fun q => by unfold dl; rw [q50]; rfl
  refine ⟨⟨q50 _, fun q q0 q1 => by rw [d0]; have := u.2.2.2.2.1 hp; omega, ?_⟩, ?_⟩
  · refine (law_iff u.1 u.2.1 (td_fo w) (fun h h0 h1 => by have := w.ho h0 h1; omega)).mp (fun q q0 q1 _ z _ => ?_)
    rw [d0] at z
    omega
  · unfold sV
    have : ∀ n, smD M (dl (M 0 0) 0) n = 0 := by
      intro n
      induction n with
      | zero => rfl
      | succ n ih => rw [smD, ih, d0, gaM_n]; rfl
    exact this _
end
