theorem stp_call {me y : MEnt} {pc : Nat} {ls : Lcs} {st : List AV} {sh : List Kd} {σ : Sto} {as rest : List AV} (h : stp me pc ls st sh σ = some (.inr (.inl (y, as, rest)))) :
    ∃ (idx kind : Nat) (pl : List Nat) (bs : List AV), (axMt (eC me)).lookup idx = some (y, kind, pl) ∧ bs.length = eN y ∧ catS rest ≤ 8 ∧ (entA as).length ≤ eL y ∧
      ((kind = 0 ∧ decode (eB me) pc = .ok (.invokevirtual idx, 3) ∧ ∃ k, as = .inr (.inr (some k)) :: bs ∧ st = bs.reverse ++ .inr (.inr (some k)) :: rest ∧ okC sh k (eC y) = true) ∨
       (kind = 3 ∧ decode (eB me) pc = .ok (.invokespecial idx, 3) ∧ ∃ k, as = .inr (.inr (some k)) :: bs ∧ st = bs.reverse ++ .inr (.inr (some k)) :: rest ∧ okC sh k (eC y) = true) ∨
       ((kind = 1 ∨ kind = 2) ∧ decode (eB me) pc = .ok (.invokestatic idx, 3) ∧ as = bs ∧ st = bs.reverse ++ rest)) := by
  have key : ∀ (idx : Nat) (ks ii : List Nat), invR me idx ks ii pc ls st sh σ = some (.inr (.inl (y, as, rest))) → ∃ (kind : Nat) (pl : List Nat) (bs : List AV), (axMt (eC me)).lookup idx = some (y, kind, pl) ∧ ks.contains kind = true ∧ bs.length = eN y ∧ catS rest ≤ 8 ∧ (entA as).length ≤ eL y ∧
      (((kind = 0 ∨ kind = 3) ∧ ∃ k, as = .inr (.inr (some k)) :: bs ∧ st = bs.reverse ++ .inr (.inr (some k)) :: rest ∧ okC sh k (eC y) = true) ∨ ((kind = 1 ∨ kind = 2) ∧ as = bs ∧ st = bs.reverse ++ rest)) := by
    intro idx ks ii h
    unfold invR at h
    split at h
    · rename_i y' kind pl hlk
      obtain ⟨h1, h2⟩ := gd_in h
      unfold callR at h2
      dsimp only at h2
      split at h2
      · rename_i hlen
        have hst : st = (st.take (eN y')).reverse.reverse ++ st.drop (eN y') := by rw [List.reverse_reverse]; exact (List.take_append_drop _ _).symm
        split at h2
        · rename_i k r hr
          obtain ⟨h3, h4⟩ := gd_in h2
          cases h4
          simp only [Bool.and_eq_true, decide_eq_true_eq] at h3
          rw [hr] at hst
          exact ⟨0, pl, _, hlk, h1, hlen, h3.1.2, h3.2, Or.inl ⟨Or.inl rfl, k, rfl, hst, h3.1.1⟩⟩
        · rename_i k r hr
          obtain ⟨h3, h4⟩ := gd_in h2
          cases h4
          simp only [Bool.and_eq_true, decide_eq_true_eq] at h3
          rw [hr] at hst
          exact ⟨3, pl, _, hlk, h1, hlen, h3.1.2, h3.2, Or.inl ⟨Or.inr rfl, k, rfl, hst, h3.1.1⟩⟩
        · obtain ⟨h3, h4⟩ := gd_in h2
          cases h4
          simp only [Bool.and_eq_true, decide_eq_true_eq] at h3
          exact ⟨1, pl, _, hlk, h1, hlen, h3.1, h3.2, Or.inr ⟨Or.inl rfl, rfl, hst⟩⟩
        · obtain ⟨h3, h4⟩ := gd_in h2
          cases h4
          simp only [Bool.and_eq_true, decide_eq_true_eq] at h3
          exact ⟨2, pl, _, hlk, h1, hlen, h3.1, h3.2, Or.inr ⟨Or.inr rfl, rfl, hst⟩⟩
        · cases h2
      · cases h2
    · split at h
      · rename_i i z hlk
        exfalso
        obtain ⟨-, h2⟩ := gd_in h
        unfold intrR at h2
        split at h2
        · unfold in0 at h2; split at h2 <;> first | (cases h2; done) | (cases (gd_in h2).2)
        · unfold in1 at h2; split at h2 <;> first | (cases h2; done) | (cases (gd_in h2).2)
        · unfold in2 at h2; split at h2 <;> first | (cases h2; done) | (cases (gd_in h2).2)
        · unfold in3 at h2; split at h2 <;> first | (cases h2; done) | (cases (gd_in h2).2)
        · cases h2
      · cases h
  unfold stp at h
  split at h
  · rename_i i len hd
    split at h
    · rename_i hn
      cases i with
      | invokevirtual idx =>
        cases ln_eq (b := 3) hn
        obtain ⟨kind, pl, bs, g1, g2, g3, g4, g5, g6⟩ := key idx _ _ h
        have hk : kind = 0 := by simpa using g2
        subst hk
        refine ⟨idx, 0, pl, bs, g1, g3, g4, g5, Or.inl ⟨rfl, hd, ?_⟩⟩
        rcases g6 with ⟨-, g6⟩ | ⟨g6, -⟩
        · exact g6
        · omega
      | invokestatic idx =>
        cases ln_eq (b := 3) hn
        obtain ⟨kind, pl, bs, g1, g2, g3, g4, g5, g6⟩ := key idx _ _ h
        have hk : kind = 1 ∨ kind = 2 := by simpa using g2
        refine ⟨idx, kind, pl, bs, g1, g3, g4, g5, Or.inr (Or.inr ⟨hk, hd, ?_⟩)⟩
        rcases g6 with ⟨g6, -⟩ | ⟨-, g6⟩
        · omega
        · exact g6
      | invokespecial idx =>
        cases ln_eq (b := 3) hn
        obtain ⟨kind, pl, bs, g1, g2, g3, g4, g5, g6⟩ := key idx _ _ h
        have hk : kind = 3 := by simpa using g2
        subst hk
        refine ⟨idx, 3, pl, bs, g1, g3, g4, g5, Or.inr (Or.inl ⟨rfl, hd, ?_⟩)⟩
        rcases g6 with ⟨-, g6⟩ | ⟨g6, -⟩
        · exact g6
        · omega
      | _ =>
        exfalso
        revert h
        unfold stpI
        (try dsimp only)
        (try unfold ldI); (try unfold stI); (try unfold bi); (try unfold bj)
        repeat' split
        all_goals intro h
        all_goals first | (cases h; done) | (cases (gd_in h).2; done) | (cases (gd_in (gd_in h).2).2; done)
    · cases h
  · cases h
