theorem arr_ext {c : ClassId} {n : Nat} {f g : Nat → Value} (h : ∀ j, j < n → f j = g j) : arrV c n f = arrV c n g := by
  unfold arrV
  congr 1
  congr 1
  funext j
  exact h j.val j.isLt
theorem wl_ext {D : va_G} {ad : Nat → Nat} {cA : FieldType → ClassId} {sh : List Kd} {σ τ : Sto} {H : Heap} (h : va_P D vwCl (wl ad cA sh σ) H) (ha : ∀ k q, sh[k]? = some q → τ k = σ k ∨ ∃ ty n, q = .inr (.inl (ty, n)) ∧ ∀ j : Nat, j < n → τ k j = σ k j) : va_P D vwCl (wl ad cA sh τ) H := by
  intro k q hq
  rw [wl_get] at hq
  cases hk : sh[k]? with
  | none => rw [hk] at hq; cases hq
  | some x =>
    rw [hk] at hq
    simp only [Option.map_some, Option.some.injEq] at hq
    have h0 := h k _ (wl_at hk)
    rw [← hq]
    rcases ha k x hk with e | ⟨ty, n, rfl, e⟩
    · rw [e]; exact h0
    · have h1 : H[ad k]? = some (arrV (cA ty) n (fun j => .int (Int32.ofInt (σ k j)))) := h0
      show H[ad k]? = some (arrV (cA ty) n (fun j => .int (Int32.ofInt (τ k j))))
      rw [h1]
      exact congrArg some (arr_ext (fun j hj => by rw [e j hj]))
theorem sOK_ext {sh : List Kd} {σ τ : Sto} (h : sOK sh σ) (ha : ∀ k q, sh[k]? = some q → τ k = σ k ∨ ∃ ty n, q = .inr (.inl (ty, n)) ∧ ∀ j : Nat, j < n → τ k j = σ k j) : sOK sh τ := by
  intro k q hq
  have h0 := h k q hq
  rcases ha k q hq with e | ⟨ty, n, rfl, e⟩
  · rw [e]; exact h0
  · intro j hj
    rw [e j hj]
    exact h0 j hj
def sh0 (ci : Nat) : List Kd := [.inl (ci, axD ci)]
def sz0 : Sto := fun _ _ => 0
def okI (sh : List Kd) (c0 s0 : Nat) (ps : List (Nat × Int × Int)) (ar : List (Nat × Nat)) (x : Option Fin5) : Bool := match x with
  | some (none, sh1, σ1, c1, s1) => decide (sh1 = sh) && decide (c1 ≤ c0) && decide (s1 ≤ s0) && ps.all (fun q => decide (σ1 q.1 q.2.1 = q.2.2)) && ar.all (fun q => (List.range q.2).all (fun j => decide (σ1 q.1 (j : Int) = 0)))
  | _ => false
theorem okI_of {sh : List Kd} {c0 s0 : Nat} {ps : List (Nat × Int × Int)} {ar : List (Nat × Nat)} {x : Option Fin5} (h : okI sh c0 s0 ps ar x = true) : ∃ σ1 c1 s1, x = some (none, sh, σ1, c1, s1) ∧ c1 ≤ c0 ∧ s1 ≤ s0 ∧ (∀ q ∈ ps, σ1 q.1 q.2.1 = q.2.2) ∧ ∀ q ∈ ar, ∀ j : Nat, j < q.2 → σ1 q.1 (j : Int) = 0 := by
  unfold okI at h
  split at h
  · rename_i sh1 σ1 c1 s1
    simp only [Bool.and_eq_true, decide_eq_true_eq, List.all_eq_true, List.mem_range] at h
    obtain ⟨⟨⟨⟨rfl, h2⟩, h3⟩, h4⟩, h5⟩ := h
    exact ⟨σ1, c1, s1, rfl, h2, h3, h4, fun q hq j hj => h5 q hq j hj⟩
  · cases h
def psC : List (Nat × Int × Int) := [(14, 0, 0), (14, 1, 0), (36, 0, 0), (18, 2, -1), (36, 1, 0), (36, 2, 0), (36, 3, 0), (14, 9, 0), (14, 10, 0), (14, 8, 0), (18, 1, 0), (1, 1, 0)]
def psR : List (Nat × Int × Int) := [(0, 31, 0), (0, 32, 0), (0, 33, 0), (0, 34, -1), (0, 35, 0), (0, 36, 0), (0, 52, 0), (0, 51, 0), (0, 48, 0), (0, 59, 0), (0, 7, 0), (0, 6, 0), (4, 97, 0), (4, 98, 0), (4, 120, 0), (4, 121, 0), (4, 110, 0)]
set_option maxRecDepth 100000 in
theorem chk_C : okI shC 59 12000 psC [(2, 160)] (exec 5000 6 mX11_init 0 (entL (eL mX11_init) [.inr (.inr (some 0))]) [] (sh0 11) sz0) = true := by decide +kernel
set_option maxRecDepth 100000 in
theorem chk_R : okI (shR 1) 27 40000 psR [(1, 160), (2, 640), (17, 6)] (exec 1000 6 mX12_init 0 (entL (eL mX12_init) [.inr (.inr (some 0))]) [] (sh0 12) sz0) = true := by decide +kernel
def nC (σ : Sto) : Sto := fun k i => if k = 2 then 0 else σ k i
def nR (σ : Sto) : Sto := fun k i => if k = 1 ∨ k = 2 ∨ k = 17 then 0 else σ k i
def M0 : Sto := fun k i => if k = 0 ∧ i = 3 then -1 else 0
theorem wf0 : wfM M0 [] := by
  unfold wfM M0
  refine ⟨by decide, ?_, ?_, ?_, ?_, ?_, ?_⟩
  · intro p h1 h2; simp at h2; omega
  · intro p h1 h2; simp at h2; omega
  · intro p h h1 h2; simp at h2; omega
  · intro p h1 h2; simp at h2; omega
  · intro h; simp at h
  · intro p h1 h2; simp at h2; omega
theorem ini_C : ∃ σ1 c1 s1, exec 5000 6 mX11_init 0 (entL (eL mX11_init) [.inr (.inr (some 0))]) [] (sh0 11) sz0 = some (none, shC, σ1, c1, s1) ∧ c1 ≤ 59 ∧ s1 ≤ 12000 ∧ RepC (nC σ1) M0 [] ∧ ∀ k q, shC[k]? = some q → nC σ1 k = σ1 k ∨ ∃ ty n, q = .inr (.inl (ty, n)) ∧ ∀ j : Nat, j < n → nC σ1 k j = σ1 k j := by
  obtain ⟨σ1, c1, s1, h1, h2, h3, h4, h5⟩ := okI_of chk_C
  refine ⟨σ1, c1, s1, h1, h2, h3, ?_, ?_⟩
  · have e : ∀ q ∈ psC, q.1 ≠ 2 → nC σ1 q.1 q.2.1 = q.2.2 := fun q hq hn => by unfold nC; rw [if_neg hn]; exact h4 q hq
    have f : ∀ a b c, (a, b, c) ∈ psC → a ≠ 2 → nC σ1 a b = c := fun a b c h hn => e (a, b, c) h hn
    refine ⟨wf0, ⟨f 18 1 0 (by decide) (by decide), by decide, fun k hk => absurd hk (Nat.not_lt_zero k), ?_, ?_⟩, ⟨f 14 0 0 (by decide) (by decide), f 14 1 0 (by decide) (by decide), f 36 0 0 (by decide) (by decide), f 18 2 (-1) (by decide) (by decide), f 36 1 0 (by decide) (by decide), f 36 2 0 (by decide) (by decide), f 36 3 0 (by decide) (by decide), f 14 9 0 (by decide) (by decide), f 14 10 0 (by decide) (by decide), f 14 8 0 (by decide) (by decide)⟩, ?_, ?_, ?_, ?_, ?_, ⟨f 1 1 0 (by decide) (by decide), fun i _ => rfl⟩⟩
    · rw [f 18 2 (-1) (by decide) (by decide)]; decide
    · rw [f 18 2 (-1) (by decide) (by decide)]; decide
    · intro p h1 h2; simp [M0] at h2; omega
    · intro p h1 h2; simp [M0] at h2; omega
    · intro p h h1 h2; simp [M0] at h2; omega
    · intro p h1 h2; simp [M0] at h2; omega
    · intro h; simp [M0] at h
  · intro k q hq
    by_cases hk : k = 2
    · subst hk
      have hq' : q = .inr (.inl (.int, 160)) := by
        have : shC[2]? = some (.inr (.inl (.int, 160))) := rfl
        rw [this] at hq
        exact (Option.some.inj hq).symm
      exact Or.inr ⟨.int, 160, hq', fun j hj => (h5 (2, 160) List.mem_cons_self j hj).symm⟩
    · exact Or.inl (by funext i; unfold nC; rw [if_neg hk])
theorem ini_R : ∃ σ1 c1 s1, exec 1000 6 mX12_init 0 (entL (eL mX12_init) [.inr (.inr (some 0))]) [] (sh0 12) sz0 = some (none, shR 1, σ1, c1, s1) ∧ c1 ≤ 27 ∧ s1 ≤ 40000 ∧ RepR 1 (nR σ1) M0 [] ∧ ∀ k q, (shR 1)[k]? = some q → nR σ1 k = σ1 k ∨ ∃ ty n, q = .inr (.inl (ty, n)) ∧ ∀ j : Nat, j < n → nR σ1 k j = σ1 k j := by
  obtain ⟨σ1, c1, s1, h1, h2, h3, h4, h5⟩ := okI_of chk_R
  refine ⟨σ1, c1, s1, h1, h2, h3, ?_, ?_⟩
  · have f : ∀ a b c, (a, b, c) ∈ psR → ¬ (a = 1 ∨ a = 2 ∨ a = 17) → nR σ1 a b = c := fun a b c h hn => by unfold nR; rw [if_neg hn]; exact h4 (a, b, c) h
    refine ⟨Or.inl rfl, wf0, ⟨f 0 7 0 (by decide) (by decide), by decide, fun k hk => absurd hk (Nat.not_lt_zero k), ?_, ?_, ?_, ?_⟩, ⟨f 0 31 0 (by decide) (by decide), f 0 32 0 (by decide) (by decide), f 0 33 0 (by decide) (by decide), f 0 34 (-1) (by decide) (by decide), f 0 35 0 (by decide) (by decide), f 0 36 0 (by decide) (by decide), f 0 52 0 (by decide) (by decide), f 0 51 0 (by decide) (by decide), f 0 48 0 (by decide) (by decide), f 0 59 0 (by decide) (by decide)⟩, ?_, ?_, ?_, ?_, ?_, ⟨f 0 6 0 (by decide) (by decide), fun i _ => by rw [show nR σ1 1 i = 0 by simp [nR], show M0 10 i = 0 by simp [M0]]; decide, fun i => by simp [nR], fun i => by simp [nR]⟩⟩
    · rw [f 0 34 (-1) (by decide) (by decide)]; decide
    · rw [f 0 34 (-1) (by decide) (by decide)]; decide
    · intro i; simp [nR]
    · intro k
      have g : ∀ b, (4, b, 0) ∈ psR → nR σ1 4 b = 0 := fun b h => f 4 b 0 h (by decide)
      unfold leR VI
      rw [g 97 (by decide), g 98 (by decide), g 120 (by decide), g 121 (by decide), g 110 (by decide)]
      simp
    · intro p h1 h2; simp [M0] at h2; omega
    · intro p h1 h2; simp [M0] at h2; omega
    · intro p h h1 h2; simp [M0] at h2; omega
    · intro p h1 h2; simp [M0] at h2; omega
    · intro h; simp [M0] at h
  · intro k q hq
    by_cases hk : k = 1 ∨ k = 2 ∨ k = 17
    · refine Or.inr ?_
      rcases hk with rfl | rfl | rfl
      · have hq' : q = .inr (.inl (.byte, 160)) := by
          have : (shR 1)[1]? = some (.inr (.inl (.byte, 160))) := rfl
          rw [this] at hq
          exact (Option.some.inj hq).symm
        exact ⟨.byte, 160, hq', fun j hj => (h5 (1, 160) (by decide) j hj).symm⟩
      · have hq' : q = .inr (.inl (.byte, 640)) := by
          have : (shR 1)[2]? = some (.inr (.inl (.byte, 640))) := rfl
          rw [this] at hq
          exact (Option.some.inj hq).symm
        exact ⟨.byte, 640, hq', fun j hj => (h5 (2, 640) (by decide) j hj).symm⟩
      · have hq' : q = .inr (.inl (.int, 6)) := by
          have : (shR 1)[17]? = some (.inr (.inl (.int, 6))) := rfl
          rw [this] at hq
          exact (Option.some.inj hq).symm
        exact ⟨.int, 6, hq', fun j hj => (h5 (17, 6) (by decide) j hj).symm⟩
    · exact Or.inl (by funext i; unfold nR; rw [if_neg hk])
