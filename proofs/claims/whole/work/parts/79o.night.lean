-- a night's moves, each lawful
section
variable {d : Nat} {sh : List Kd} {σ : Sto} {Q : Option AV → List Kd → Sto → Prop} {t : Nat} {M : Sto} {Ls : List (List Cl)}
/-- how far livings are from a goal -/
def dsP (M : Sto) (Ls : List (List Cl)) (G : Int → Int) (c : (Int → Int) → Int) : Prop :=
  exF (M 0 0) c ∧ (∀ D, vd (M 0 0) (M 0 1) D → 0 ≤ c D ∧ c D ≤ 1000000) ∧ c G = 0 ∧ (∀ D, vd (M 0 0) (M 0 1) D → c D < 1000000 → gdD M Ls (M 0 2) D = true) ∧
  (∀ U D, vd (M 0 0) (M 0 1) U → vd (M 0 0) (M 0 1) D → gdD M Ls (M 0 2) U = true → gdD M Ls (M 0 2) D = true → hmg U D (M 0 0).toNat = 1 → c U < 1000000 → c D ≤ c U + 1) ∧
  (∀ D, vd (M 0 0) (M 0 1) D → c D < 1000000 → (∀ p, 0 ≤ p → p < M 0 0 → D p = G p) ∨ ∃ U, vd (M 0 0) (M 0 1) U ∧ hmg U D (M 0 0).toNat = 1 ∧ c U + 1 = c D)
theorem ds_le {G : Int → Int} {c c' : (Int → Int) → Int} (h : dsP M Ls G c) (h' : dsP M Ls G c') : ∀ n : Nat, ∀ D, vd (M 0 0) (M 0 1) D → c D = n → c D < 1000000 → c' D ≤ n := by
  obtain ⟨h1, h2, h3, h4, h5, h6⟩ := h
  obtain ⟨g1, g2, g3, g4, g5, g6⟩ := h'
  intro n
  induction n with
  | zero =>
    intro D hD e l
    rcases h6 D hD l with q | ⟨U, hU, q, z⟩
    · rw [g1 D G q, g3]; omega
    · have := (h2 U hU).1; omega
  | succ n ih =>
    intro D hD e l
    rcases h6 D hD l with q | ⟨U, hU, q, z⟩
    · rw [g1 D G q, g3]; omega
    · have i1 := ih U hU (by omega) (by omega)
      have := g5 U D hU hD (h4 U hU (by omega)) (h4 D hD l) q (by omega)
      omega
theorem dsP.un {G : Int → Int} {c c' : (Int → Int) → Int} (h : dsP M Ls G c) (h' : dsP M Ls G c') : ∀ D, vd (M 0 0) (M 0 1) D → c D = c' D := by
  intro D hD
  have b := h.2.1 D hD
  have b' := h'.2.1 D hD
  have l1 : c' D ≤ c D := by
    by_cases k : c D < 1000000
    · have := ds_le h h' (c D).toNat D hD (by omega) k; omega
    · omega
  have l2 : c D ≤ c' D := by
    by_cases k : c' D < 1000000
    · have := ds_le h' h (c' D).toNat D hD (by omega) k; omega
    · omega
  omega
/-- how many steps from a living -/
def stP (P H : Int) (c : (Int → Int) → Int) (D : Int → Int) (s : Int) : Prop := (s = 1000000 ∧ ∀ U, vd P H U → hmg U D P.toNat = 1 → c U = 1000000) ∨ (s < 1000000 ∧ (∀ U, vd P H U → hmg U D P.toNat = 1 → s ≤ c U + 1) ∧ ∃ U, vd P H U ∧ hmg U D P.toNat = 1 ∧ s = c U + 1)
theorem stP.un {P H s s' : Int} {c c' : (Int → Int) → Int} {D : Int → Int} (e : ∀ D, vd P H D → c D = c' D) (h : stP P H c D s) (h' : stP P H c' D s') : s = s' := by
  rcases h with ⟨h1, h2⟩ | ⟨h1, h2, U, hU, a, h3⟩ <;> rcases h' with ⟨k1, k2⟩ | ⟨k1, k2, V, hV, b, k3⟩
  · omega
  · have := h2 V hV b
    rw [e V hV] at this
    omega
  · have := k2 U hU a
    rw [← e U hU] at this
    omega
  · have l1 := h2 V hV b
    have l2 := k2 U hU a
    rw [e V hV] at l1
    rw [← e U hU] at l2
    omega
theorem fsH_cg {g g' : Int → Int} : ∀ (n : Nat) (h : Int), (∀ j, h ≤ j → j < h + n → g j = g' j) → fsH g h n = fsH g' h n := by
  intro n
  induction n with
  | zero => intro h _; rfl
  | succ n ih => intro h e; rw [fsH_s, fsH_s, e h (by omega) (by omega), ih (h + 1) (fun j j0 j1 => e j (by omega) (by omega))]
theorem ftI_cg {f f' : Int → Bool} : ∀ (n : Nat) (h : Int), (∀ j, h ≤ j → j < h + n → f j = f' j) → ftI f h n = ftI f' h n := by
  intro n
  induction n with
  | zero => intro h _; rfl
  | succ n ih => intro h e; rw [ftI, ftI, e h (by omega) (by omega), ih (h + 1) (fun j j0 j1 => e j (by omega) (by omega))]
theorem ftI_in {f : Int → Bool} : ∀ (n : Nat) (h : Int), ftI f h n = -1 ∨ (h ≤ ftI f h n ∧ ftI f h n < h + n) := by
  intro n
  induction n with
  | zero => intro h; exact Or.inl rfl
  | succ n ih =>
    intro h
    rw [ftI]
    by_cases c : f h = true
    · rw [if_pos c]; exact Or.inr ⟨by omega, by omega⟩
    · rw [if_neg c]
      rcases ih (h + 1) with q | q
      · exact Or.inl q
      · exact Or.inr ⟨by omega, by omega⟩
/-- a step's house for one person, then the first step of all -/
def okE (c : (Int → Int) → Int) (D : Int → Int) (u p h : Int) : Bool := decide (¬ h = D p) && decide (c (set1 D p h) = u)
def cdE (p h : Int) : Int := if h = -1 then -1 else 10 * p + h
def stE (P H : Int) (c : (Int → Int) → Int) (D : Int → Int) (u : Int) : Int := fsH (fun p => cdE p (ftI (okE c D u p) 0 H.toNat)) 0 P.toNat
theorem stE_in {P H u : Int} {c : (Int → Int) → Int} {D : Int → Int} (hH : 0 ≤ H ∧ H ≤ 9) (hP : 0 ≤ P) : stE P H c D u = -1 ∨ (0 ≤ stE P H c D u / 10 ∧ stE P H c D u / 10 < P ∧ 0 ≤ stE P H c D u % 10 ∧ stE P H c D u % 10 < H ∧ 0 ≤ stE P H c D u ∧ stE P H c D u < 10 * P) := by
  have key : ∀ (n : Nat) (p : Int), 0 ≤ p → p + n ≤ P → fsH (fun p => cdE p (ftI (okE c D u p) 0 H.toNat)) p n = -1 ∨ (0 ≤ fsH (fun p => cdE p (ftI (okE c D u p) 0 H.toNat)) p n / 10 ∧ fsH (fun p => cdE p (ftI (okE c D u p) 0 H.toNat)) p n / 10 < P ∧ 0 ≤ fsH (fun p => cdE p (ftI (okE c D u p) 0 H.toNat)) p n % 10 ∧ fsH (fun p => cdE p (ftI (okE c D u p) 0 H.toNat)) p n % 10 < H ∧ 0 ≤ fsH (fun p => cdE p (ftI (okE c D u p) 0 H.toNat)) p n ∧ fsH (fun p => cdE p (ftI (okE c D u p) 0 H.toNat)) p n < 10 * P) := by
    intro n
    induction n with
    | zero => intro p _ _; exact Or.inl rfl
    | succ n ih =>
      intro p p0 p1
      rw [fsH_s]
      have ft := ftI_in (f := okE c D u p) H.toNat 0
      by_cases z : cdE p (ftI (okE c D u p) 0 H.toNat) = -1
      · rw [if_pos z]; exact ih (p + 1) (by omega) (by omega)
      · rw [if_neg z]
        unfold cdE at z ⊢
        by_cases y : ftI (okE c D u p) 0 H.toNat = -1
        · rw [if_pos y] at z; exact absurd rfl z
        · rw [if_neg y]
          exact Or.inr ⟨by omega, by omega, by omega, by omega, by omega, by omega⟩
  exact key P.toNat 0 (by omega) (by omega)
def rowF (P H : Int) (c : (Int → Int) → Int) : Nat → (Int → Int) → Int → Int
  | 0, D, u => stE P H c D u
  | k + 1, D, u => if stE P H c D u = -1 then -1 else rowF P H c k (set1 D (stE P H c D u / 10) (stE P H c D u % 10)) (u - 1)
theorem stE_cg {P H u : Int} {c c' : (Int → Int) → Int} {D : Int → Int} (hP : 0 ≤ P) (hH : 0 ≤ H) (hD : vd P H D) (e : ∀ D, vd P H D → c D = c' D) : stE P H c D u = stE P H c' D u := by
  unfold stE
  refine fsH_cg _ _ (fun p p0 p1 => ?_)
  try dsimp only
  rw [ftI_cg H.toNat 0 (fun h h0 h1 => ?_)]
  unfold okE
  rw [e _ (set1_vd hD h0 (by omega))]
theorem rowF_cg {P H : Int} {c c' : (Int → Int) → Int} (hP : 0 ≤ P) (hH : 0 ≤ H ∧ H ≤ 9) (e : ∀ D, vd P H D → c D = c' D) : ∀ (k : Nat) (D : Int → Int) (u : Int), vd P H D → rowF P H c k D u = rowF P H c' k D u := by
  intro k
  induction k with
  | zero => intro D u hD; exact stE_cg hP hH.1 hD e
  | succ k ih =>
    intro D u hD
    rw [rowF, rowF, ← stE_cg hP hH.1 hD e]
    by_cases z : stE P H c D u = -1
    · rw [if_pos z, if_pos z]
    · rw [if_neg z, if_neg z]
      rcases stE_in (u := u) (c := c) (D := D) hH hP with q | q
      · exact absurd q z
      · exact ih _ _ (set1_vd hD q.2.2.1 q.2.2.2.1)
/-- who may ask -/
def ngO (M : Sto) (l k : Int) : Prop := (0 < M 0 0 ∧ M 0 0 ≤ 5 ∧ M 0 1 ≤ 3) ∧ 0 ≤ l ∧ -1 ≤ k ∧ lvB (M 0 0) (M 0 1) l = true ∧ ∀ p, 0 ≤ p → p < M 0 0 → ¬ M 2 p = -1
def ngP (M : Sto) (Ls : List (List Cl)) (l k x : Int) : Prop := (¬ ngO M l k ∧ x = -1) ∨ (ngO M l k ∧
  (((∀ p, 0 ≤ p → p < M 0 0 → M 2 p = dg (M 0 0) l p) ∧ x = if k = -1 then 0 else -1) ∨
  (¬ (∀ p, 0 ≤ p → p < M 0 0 → M 2 p = dg (M 0 0) l p) ∧ gdD M Ls (M 0 2) (dg (M 0 0) l) = false ∧ x = -1) ∨
  (¬ (∀ p, 0 ≤ p → p < M 0 0 → M 2 p = dg (M 0 0) l p) ∧ gdD M Ls (M 0 2) (dg (M 0 0) l) = true ∧ ∃ c s, dsP M Ls (dg (M 0 0) l) c ∧ stP (M 0 0) (M 0 1) c (M 2) s ∧ x = if s = 1000000 then -1 else if k = -1 then s else if k < s then rowF (M 0 0) (M 0 1) c k.toNat (M 2) (s - 1) else -1)))
theorem ng_vd {l k : Int} (w : wfM M Ls) (h : ngO M l k) : vd (M 0 0) (M 0 1) (M 2) := fun p p0 p1 => by
  have := w.pe p0 p1
  have := h.2.2.2.2 p p0 p1
  omega
theorem ng_un {l k x y : Int} (w : wfM M Ls) (h : ngP M Ls l k x) (h' : ngP M Ls l k y) : x = y := by
  have u := w.sc
  rcases h with ⟨a, e⟩ | ⟨a, e⟩
  · rcases h' with ⟨b, f⟩ | ⟨b, f⟩
    · omega
    · exact absurd b a
  · rcases h' with ⟨b, f⟩ | ⟨b, f⟩
    · exact absurd a b
    · rcases e with ⟨e1, e2⟩ | ⟨e1, e2, e3⟩ | ⟨e1, e2, c, s, e3, e4, e5⟩
      · rcases f with ⟨f1, f2⟩ | ⟨f1, f2, f3⟩ | ⟨f1, f2, c', s', f3, f4, f5⟩
        · rw [e2, f2]
        · exact absurd e1 f1
        · exact absurd e1 f1
      · rcases f with ⟨f1, f2⟩ | ⟨f1, f2, f3⟩ | ⟨f1, f2, c', s', f3, f4, f5⟩
        · exact absurd f1 e1
        · omega
        · rw [e2] at f2; cases f2
      · rcases f with ⟨f1, f2⟩ | ⟨f1, f2, f3⟩ | ⟨f1, f2, c', s', f3, f4, f5⟩
        · exact absurd f1 e1
        · rw [e2] at f2; cases f2
        · have ec := e3.un f3
          have es := stP.un ec e4 f4
          rw [e5, f5, ← es, rowF_cg u.1 ⟨u.2.2.1, by omega⟩ ec k.toNat (M 2) (s - 1) (ng_vd w a)]
noncomputable def aNight (M : Sto) (Ls : List (List Cl)) (l k : Int) : Int := Classical.epsilon (ngP M Ls l k)
theorem ng_a {l k x : Int} (w : wfM M Ls) (h : ngP M Ls l k x) : x = aNight M Ls l k := ng_un w h (Classical.epsilon_spec ⟨x, h⟩)
theorem hmg_1 {A B : Int → Int} : ∀ n : Nat, hmg A B n = 1 → ∃ p : Int, 0 ≤ p ∧ p < n ∧ ¬ A p = B p ∧ ∀ q : Int, 0 ≤ q → q < n → q ≠ p → A q = B q := by
  have z : ∀ n : Nat, hmg A B n = 0 → ∀ q : Int, 0 ≤ q → q < n → A q = B q := by
    intro n
    induction n with
    | zero => intro _ q q0 q1; omega
    | succ n ih =>
      intro h q q0 q1
      rw [hmg] at h
      have b := hmg_b (D := A) (D' := B) n
      by_cases c : A n = B n
      · rw [if_pos c] at h
        by_cases e : q = n
        · rw [e]; exact c
        · exact ih (by omega) q q0 (by omega)
      · rw [if_neg c] at h; omega
  intro n
  induction n with
  | zero => intro h; exact absurd h (by show ¬ (0 : Int) = 1; omega)
  | succ n ih =>
    intro h
    rw [hmg] at h
    by_cases c : A n = B n
    · rw [if_pos c] at h
      obtain ⟨p, p0, p1, p2, p3⟩ := ih (by omega)
      refine ⟨p, p0, by omega, p2, fun q q0 q1 qp => ?_⟩
      by_cases e : q = n
      · rw [e]; exact c
      · exact p3 q q0 (by omega) qp
    · rw [if_neg c] at h
      refine ⟨n, by omega, by omega, c, fun q q0 q1 qp => z n (by omega) q q0 (by omega)⟩
theorem hmg_set {D : Int → Int} {p h : Int} : ∀ n : Nat, 0 ≤ p → p < n → ¬ h = D p → hmg (set1 D p h) D n = 1 := by
  have z : ∀ n : Nat, (n : Int) ≤ p → hmg (set1 D p h) D n = 0 := by
    intro n
    induction n with
    | zero => intro _; rfl
    | succ n ih => intro hn; rw [hmg, ih (by omega), set1_lo (by omega), if_pos rfl]; rfl
  intro n
  induction n with
  | zero => intro _ _; omega
  | succ n ih =>
    intro p0 p1 ne
    rw [hmg]
    by_cases c : p = n
    · rw [z n (by omega), ← c, set1_at, if_neg ne]; rfl
    · rw [ih p0 (by omega) ne, set1_lo (by omega), if_pos rfl]; rfl
theorem hmg_sy {A B : Int → Int} : ∀ n : Nat, hmg A B n = hmg B A n := by
  intro n
  induction n with
  | zero => rfl
  | succ n ih =>
    rw [hmg, hmg, ih]
    by_cases c : A n = B n
    · rw [if_pos c, if_pos c.symm]
    · rw [if_neg c, if_neg (fun z => c z.symm)]
/-- how many of n are told -/
def cnF (c : Int → Int) : Nat → Nat
  | 0 => 0
  | n + 1 => cnF c n + (if c n = 1000000 then 0 else 1)
theorem cnF_le {c : Int → Int} : ∀ n, cnF c n ≤ n := by
  intro n
  induction n with
  | zero => exact Nat.le_refl _
  | succ n ih => rw [cnF]; split <;> omega
theorem cnF_lt {c : Int → Int} : ∀ n : Nat, ∀ s : Int, 0 ≤ s → s < n → c s = 1000000 → cnF c n < n := by
  intro n
  induction n with
  | zero => intro s s0 s1; omega
  | succ n ih =>
    intro s s0 s1 e
    rw [cnF]
    by_cases k : s = n
    · rw [k] at e; rw [if_pos e]; have := cnF_le (c := c) n; omega
    · have := ih s s0 (by omega) e
      split <;> omega
theorem cnF_cg {c c' : Int → Int} : ∀ n : Nat, (∀ s : Int, 0 ≤ s → s < n → c s = c' s) → cnF c n = cnF c' n := by
  intro n
  induction n with
  | zero => intro _; rfl
  | succ n ih => intro e; rw [cnF, cnF, ih (fun q q0 q1 => e q q0 (by omega)), e n (by omega) (by omega)]
theorem cnF_up {c c' : Int → Int} {s : Int} (s0 : 0 ≤ s) (h1 : c s = 1000000) (h2 : ¬ c' s = 1000000) : ∀ n : Nat, s < n → (∀ j : Int, 0 ≤ j → j < n → j ≠ s → c' j = c j) → cnF c' n = cnF c n + 1 := by
  intro n
  induction n with
  | zero => intro _; omega
  | succ n ih =>
    intro hn e
    rw [cnF, cnF]
    by_cases k : s = n
    · rw [← k, if_pos h1, if_neg h2, cnF_cg (c := c') (c' := c) n (fun j j0 j1 => e j j0 (by omega) (by omega))]
    · rw [ih (by omega) (fun j j0 j1 => e j j0 (by omega)), e n (by omega) (by omega) (fun z => k z.symm)]; omega
end
