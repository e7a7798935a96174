section
variable {d : Nat} {sh : List Kd} {σ : Sto} {Q : Option AV → List Kd → Sto → Prop} {t : Nat} {M : Sto} {Ls : List (List Cl)}
theorem hv_of {P v : Int} (h0 : 0 < P) (h5 : P ≤ 5) (v0 : 0 ≤ v) (v1 : v < lvN P) : hvN (dg P v) P.toNat = v := by
  rcases (show P = 1 ∨ P = 2 ∨ P = 3 ∨ P = 4 ∨ P = 5 by omega) with rfl | rfl | rfl | rfl | rfl
  · have v1 : v < 4 := v1
    show 4 * 0 + v % 4 = v
    omega
  · have v1 : v < 16 := v1
    show 4 * (4 * 0 + v / 4 % 4) + v % 4 = v
    omega
  · have v1 : v < 64 := v1
    show 4 * (4 * (4 * 0 + v / 4 / 4 % 4) + v / 4 % 4) + v % 4 = v
    omega
  · have v1 : v < 256 := v1
    show 4 * (4 * (4 * (4 * 0 + v / 4 / 4 / 4 % 4) + v / 4 / 4 % 4) + v / 4 % 4) + v % 4 = v
    omega
  · have v1 : v < 1024 := v1
    show 4 * (4 * (4 * (4 * (4 * 0 + v / 4 / 4 / 4 / 4 % 4) + v / 4 / 4 / 4 % 4) + v / 4 / 4 % 4) + v / 4 % 4) + v % 4 = v
    omega
theorem hv_cg {U U' : Int → Int} : ∀ n : Nat, (∀ q : Int, 0 ≤ q → q < n → U q = U' q) → hvN U n = hvN U' n := by
  intro n
  induction n with
  | zero => intro _; rfl
  | succ n ih => intro e; rw [hvN, hvN, ih (fun q q0 q1 => e q q0 (by omega)), e n (by omega) (by omega)]
theorem hv_st {P H : Int} (hP : 0 < P ∧ P ≤ 5) (hH : H ≤ 4) {U : Int → Int} (hU : vd P H U) : 0 ≤ hvN U P.toNat ∧ hvN U P.toNat < lvN P ∧ lvB P H (hvN U P.toNat) = true ∧ ∀ p, 0 ≤ p → p < P → dg P (hvN U P.toNat) p = U p := by
  obtain ⟨v, v0, v1, v2, v3⟩ := hv_ex hP hH hU
  have e := hv_of hP.1 hP.2 v0 v1
  rw [hv_cg (U' := U) P.toNat (fun q q0 q1 => v3 q q0 (by omega))] at e
  rw [e]
  exact ⟨v0, v1, v2, v3⟩
theorem cnF_gt {c c' : Int → Int} {s : Int} (s0 : 0 ≤ s) (h1 : c s = 1000000) (h2 : ¬ c' s = 1000000) : ∀ n : Nat, s < n → (∀ j : Int, 0 ≤ j → j < n → ¬ c j = 1000000 → ¬ c' j = 1000000) → cnF c n + 1 ≤ cnF c' n := by
  have mono : ∀ n : Nat, (∀ j : Int, 0 ≤ j → j < n → ¬ c j = 1000000 → ¬ c' j = 1000000) → cnF c n ≤ cnF c' n := by
    intro n
    induction n with
    | zero => intro _; exact Nat.le_refl _
    | succ n ih =>
      intro e
      have i1 := ih (fun j j0 j1 => e j j0 (by omega))
      rw [cnF, cnF]
      by_cases k : c n = 1000000
      · rw [if_pos k]; split <;> omega
      · rw [if_neg k, if_neg (e n (by omega) (by omega) k)]; omega
  intro n
  induction n with
  | zero => intro _; omega
  | succ n ih =>
    intro hn e
    rw [cnF, cnF]
    by_cases k : s = n
    · have m := mono n (fun j j0 j1 => e j j0 (by omega))
      rw [← k, if_pos h1, if_neg h2]
      omega
    · have i1 := ih (by omega) (fun j j0 j1 => e j j0 (by omega))
      by_cases z : c n = 1000000
      · rw [if_pos z]; split <;> omega
      · rw [if_neg z, if_neg (e n (by omega) (by omega) z)]; omega
/-- where a row of moves may pass -/
def okA (M : Sto) (Ls : List (List Cl)) (st v : Int) : Prop := gB M Ls (M 0 2) v = true ∨ v = st
/-- who is reached at a step -/
def hit (M : Sto) (Ls : List (List Cl)) (c : Int → Int) (step v : Int) : Prop := ∃ u, 0 ≤ u ∧ u < lvN (M 0 0) ∧ c u = step - 1 ∧ unZ u v = 1 ∧ gB M Ls (M 0 2) u = true
def chg (M : Sto) (Ls : List (List Cl)) (st : Int) (c : Int → Int) (step v : Int) : Prop := c v = 1000000 ∧ okA M Ls st v ∧ hit M Ls c step v
def rndS (M : Sto) (Ls : List (List Cl)) (l st : Int) (c : Int → Int) (step : Int) : Prop :=
  c l = 0 ∧ (∀ v, 0 ≤ v → v < lvN (M 0 0) → c v = 1000000 ∨ (0 ≤ c v ∧ c v ≤ step - 1 ∧ (v = l ∨ (okA M Ls st v ∧ ∃ u, 0 ≤ u ∧ u < lvN (M 0 0) ∧ gB M Ls (M 0 2) u = true ∧ unZ u v = 1 ∧ c u + 1 = c v)))) ∧
  (∀ u v, 0 ≤ u → u < lvN (M 0 0) → 0 ≤ v → v < lvN (M 0 0) → gB M Ls (M 0 2) u = true → unZ u v = 1 → okA M Ls st v → c u ≤ step - 2 → c v ≤ c u + 1)
theorem rn_next {l st step : Int} {c c' : Int → Int} (h : rndS M Ls l st c step) (s0 : 1 ≤ step) (s1 : step ≤ 5000) (l0 : 0 ≤ l) (l1 : l < lvN (M 0 0)) (hn : ∀ v, 0 ≤ v → v < lvN (M 0 0) → (chg M Ls st c step v ∧ c' v = step) ∨ (¬ chg M Ls st c step v ∧ c' v = c v)) : rndS M Ls l st c' (step + 1) := by
  obtain ⟨h1, h2, h3⟩ := h
  have fin : ∀ v, 0 ≤ v → v < lvN (M 0 0) → ¬ c v = 1000000 → c' v = c v := fun v v0 v1 q => by
    rcases hn v v0 v1 with z | z
    · exact absurd z.1.1 q
    · exact z.2
  refine ⟨by rw [fin l l0 l1 (by omega)]; exact h1, fun v v0 v1 => ?_, fun u v u0 u1 v0 v1 gu un ok cu => ?_⟩
  · rcases hn v v0 v1 with ⟨z, e⟩ | ⟨z, e⟩
    · obtain ⟨_, ok, u, u0, u1, u2, u3, u4⟩ := z
      refine Or.inr ⟨by omega, by omega, Or.inr ⟨ok, u, u0, u1, u4, u3, ?_⟩⟩
      rw [fin u u0 u1 (by omega), e]; omega
    · rw [e]
      rcases h2 v v0 v1 with q | ⟨q1, q2, q3⟩
      · exact Or.inl q
      · refine Or.inr ⟨q1, by omega, q3.elim Or.inl (fun ⟨ok, u, u0, u1, u2, u3, u4⟩ => Or.inr ⟨ok, u, u0, u1, u2, u3, by rw [fin u u0 u1 (by omega)]; exact u4⟩)⟩
  · have cu' : c' u = c u := by
      rcases hn u u0 u1 with ⟨z, e⟩ | ⟨z, e⟩
      · omega
      · exact e
    rw [cu'] at cu ⊢
    by_cases k : c u ≤ step - 2
    · have := h3 u v u0 u1 v0 v1 gu un ok k
      have cuf : 0 ≤ c u := by rcases h2 u u0 u1 with q | q <;> omega
      rw [fin v v0 v1 (by omega)]; exact this
    · have e : c u = step - 1 := by omega
      by_cases f : c v = 1000000
      · rcases hn v v0 v1 with ⟨z, e2⟩ | ⟨z, e2⟩
        · omega
        · exact absurd ⟨f, ok, u, u0, u1, e, un, gu⟩ z
      · rw [fin v v0 v1 f]
        rcases h2 v v0 v1 with q | q
        · exact absurd q f
        · omega
/-- the search has come to its end -/
def rndE (M : Sto) (Ls : List (List Cl)) (l st : Int) (c : Int → Int) : Prop :=
  c l = 0 ∧ (∀ v, 0 ≤ v → v < lvN (M 0 0) → c v = 1000000 ∨ (0 ≤ c v ∧ c v < 5000 ∧ (v = l ∨ (okA M Ls st v ∧ ∃ u, 0 ≤ u ∧ u < lvN (M 0 0) ∧ gB M Ls (M 0 2) u = true ∧ unZ u v = 1 ∧ c u + 1 = c v)))) ∧
  (∀ u v, 0 ≤ u → u < lvN (M 0 0) → 0 ≤ v → v < lvN (M 0 0) → gB M Ls (M 0 2) u = true → unZ u v = 1 → okA M Ls st v → c u < 1000000 → c v ≤ c u + 1)
theorem rn_end {l st step : Int} {c : Int → Int} (h : rndS M Ls l st c step) (s1 : step ≤ 5000) (hn : ∀ v, 0 ≤ v → v < lvN (M 0 0) → ¬ chg M Ls st c step v) : rndE M Ls l st c := by
  obtain ⟨h1, h2, h3⟩ := h
  refine ⟨h1, fun v v0 v1 => ?_, fun u v u0 u1 v0 v1 gu un ok cu => ?_⟩
  · rcases h2 v v0 v1 with q | ⟨q1, q2, q3⟩
    · exact Or.inl q
    · exact Or.inr ⟨q1, by omega, q3⟩
  · have cb : 0 ≤ c u ∧ c u ≤ step - 1 := by
      rcases h2 u u0 u1 with q | ⟨q1, q2, q3⟩
      · omega
      · exact ⟨q1, q2⟩
    by_cases k : c u ≤ step - 2
    · exact h3 u v u0 u1 v0 v1 gu un ok k
    · rcases h2 v v0 v1 with q | ⟨q1, q2, q3⟩
      · exact absurd ⟨q, ok, u, u0, u1, by omega, un, gu⟩ (hn v v0 v1)
      · omega
/-- the costs of livings -/
def cR (M : Sto) (Ls : List (List Cl)) (c : Int → Int) (D : Int → Int) : Int := if gdD M Ls (M 0 2) D = true then c (hvN D (M 0 0).toNat) else 1000000
theorem cR_ex {c : Int → Int} (w : wfM M Ls) : exF (M 0 0) (cR M Ls c) := fun D D' e => by
  have := w.sc.1
  unfold cR
  rw [gdD_cg w e, hv_cg (M 0 0).toNat (fun q q0 q1 => e q q0 (by omega))]
theorem gB_of {x : Int} {D : Int → Int} (w : wfM M Ls) (hp : smP (M 0 1) (M 0 0)) (hD : vd (M 0 0) (M 0 1) D) : gB M Ls x (hvN D (M 0 0).toNat) = gdD M Ls x D := by
  have s := hv_st ⟨hp.2.2.1, hp.2.2.2⟩ (show M 0 1 ≤ 4 by have := hp.2.1; omega) hD
  unfold gB
  rw [s.2.2.1, Bool.true_and, gdD_cg w s.2.2.2]
theorem un_hv {U D : Int → Int} (hp : smP (M 0 1) (M 0 0)) (hU : vd (M 0 0) (M 0 1) U) (hD : vd (M 0 0) (M 0 1) D) : unZ (hvN U (M 0 0).toNat) (hvN D (M 0 0).toNat) = hmg U D (M 0 0).toNat := by
  have hP : 0 < M 0 0 ∧ M 0 0 ≤ 5 := ⟨hp.2.2.1, hp.2.2.2⟩
  have a := hv_st hP (show M 0 1 ≤ 4 by have := hp.2.1; omega) hU
  have b := hv_st hP (show M 0 1 ≤ 4 by have := hp.2.1; omega) hD
  rw [un_eq hP.1 hP.2 a.1 a.2.1 b.1 b.2.1, hmg_cg (A' := U) (B' := D) (M 0 0).toNat (fun q q0 q1 => ⟨a.2.2.2 q q0 (by omega), b.2.2.2 q q0 (by omega)⟩)]
theorem gB_vd {x u : Int} (w : wfM M Ls) (g : gB M Ls x u = true) : vd (M 0 0) (M 0 1) (dg (M 0 0) u) ∧ gdD M Ls x (dg (M 0 0) u) = true := by
  unfold gB at g
  rw [Bool.and_eq_true] at g
  exact ⟨lv_vd w.sc.1 g.1, g.2⟩
theorem rn_ds {l st : Int} {c : Int → Int} (w : wfM M Ls) (hp : smP (M 0 1) (M 0 0)) (l0 : 0 ≤ l) (l1 : l < lvN (M 0 0)) (lv : lvB (M 0 0) (M 0 1) l = true) (gl : gdD M Ls (M 0 2) (dg (M 0 0) l) = true) (h : rndE M Ls l st c) : dsP M Ls (dg (M 0 0) l) (cR M Ls c) := by
  obtain ⟨h1, h2, h3⟩ := h
  obtain ⟨z1, z2, z3, z4⟩ := id hp
  have hP : 0 < M 0 0 ∧ M 0 0 ≤ 5 := ⟨z3, z4⟩
  have hv := fun D => hv_st (U := D) hP (show M 0 1 ≤ 4 by omega)
  refine ⟨cR_ex w, fun D hD => ?_, ?_, fun D hD q => ?_, fun U D hU hD gU gD ad q => ?_, fun D hD q => ?_⟩
  · unfold cR
    have s := hv D hD
    by_cases g : gdD M Ls (M 0 2) D = true
    · rw [if_pos g]
      rcases h2 _ s.1 s.2.1 with z | z <;> omega
    · rw [if_neg g]; omega
  · unfold cR
    rw [if_pos gl, hv_of z3 z4 l0 l1]; exact h1
  · unfold cR at q
    by_cases g : gdD M Ls (M 0 2) D = true
    · exact g
    · rw [if_neg g] at q; omega
  · have a := hv U hU
    have b := hv D hD
    unfold cR at q ⊢
    rw [if_pos gU] at q ⊢
    rw [if_pos gD]
    exact h3 _ _ a.1 a.2.1 b.1 b.2.1 (by rw [gB_of w hp hU]; exact gU) (by rw [un_hv hp hU hD]; exact ad) (Or.inl (by rw [gB_of w hp hD]; exact gD)) q
  · have b := hv D hD
    have gD : gdD M Ls (M 0 2) D = true := by
      unfold cR at q
      by_cases g : gdD M Ls (M 0 2) D = true
      · exact g
      · rw [if_neg g] at q; omega
    have e : cR M Ls c D = c (hvN D (M 0 0).toNat) := if_pos gD
    rw [e] at q ⊢
    rcases h2 _ b.1 b.2.1 with z | ⟨_, _, z⟩
    · omega
    · rcases z with z | ⟨_, u, u0, u1, u2, u3, u4⟩
      · refine Or.inl (fun p p0 p1 => ?_)
        rw [← b.2.2.2 p p0 p1, z]
      · have g := gB_vd w u2
        refine Or.inr ⟨dg (M 0 0) u, g.1, ?_, ?_⟩
        · rw [← un_hv hp g.1 hD, hv_of z3 z4 u0 u1]; exact u3
        · unfold cR
          rw [if_pos g.2, hv_of z3 z4 u0 u1]; exact u4
theorem rn_st {l st : Int} {c : Int → Int} (w : wfM M Ls) (hp : smP (M 0 1) (M 0 0)) (hD : vd (M 0 0) (M 0 1) (M 2)) (hs : st = hvN (M 2) (M 0 0).toNat) (ne : ¬ st = l) (h : rndE M Ls l st c) : stP (M 0 0) (M 0 1) (cR M Ls c) (M 2) (c st) := by
  obtain ⟨h1, h2, h3⟩ := h
  obtain ⟨z1, z2, z3, z4⟩ := id hp
  have hP : 0 < M 0 0 ∧ M 0 0 ≤ 5 := ⟨z3, z4⟩
  have hv := fun D => hv_st (U := D) hP (show M 0 1 ≤ 4 by omega)
  have s := hv _ hD
  rw [← hs] at s
  have le : ∀ U, vd (M 0 0) (M 0 1) U → hmg U (M 2) (M 0 0).toNat = 1 → cR M Ls c U < 1000000 → c st ≤ cR M Ls c U + 1 := by
    intro U hU ad q
    have a := hv U hU
    unfold cR at q ⊢
    by_cases g : gdD M Ls (M 0 2) U = true
    · rw [if_pos g] at q ⊢
      exact h3 _ _ a.1 a.2.1 s.1 s.2.1 (by rw [gB_of w hp hU]; exact g) (by rw [hs, un_hv hp hU hD]; exact ad) (Or.inr rfl) q
    · rw [if_neg g] at q; omega
  have bd : ∀ U, vd (M 0 0) (M 0 1) U → cR M Ls c U ≤ 1000000 := fun U hU => by
    have a := hv U hU
    unfold cR
    by_cases g : gdD M Ls (M 0 2) U = true
    · rw [if_pos g]; rcases h2 _ a.1 a.2.1 with z | z <;> omega
    · rw [if_neg g]; omega
  rcases h2 st s.1 s.2.1 with z | ⟨q1, q2, q3⟩
  · refine Or.inl ⟨z, fun U hU ad => ?_⟩
    refine Classical.byContradiction (fun q => ?_)
    have b := bd U hU
    have := le U hU ad (by omega)
    have e : c st ≤ 5001 := by
      have a := hv U hU
      unfold cR at this q
      by_cases g : gdD M Ls (M 0 2) U = true
      · rw [if_pos g] at this q
        rcases h2 _ a.1 a.2.1 with y | y
        · exact absurd y q
        · omega
      · rw [if_neg g] at q; exact absurd rfl q
    omega
  · refine Or.inr ⟨by omega, fun U hU ad => ?_, ?_⟩
    · by_cases q : cR M Ls c U < 1000000
      · exact le U hU ad q
      · omega
    · rcases q3 with y | ⟨_, u, u0, u1, u2, u3, u4⟩
      · exact absurd y ne
      · have g := gB_vd w u2
        refine ⟨dg (M 0 0) u, g.1, ?_, ?_⟩
        · rw [← un_hv hp g.1 hD, hv_of z3 z4 u0 u1, ← hs]; exact u3
        · unfold cR
          rw [if_pos g.2, hv_of z3 z4 u0 u1]; omega
end
