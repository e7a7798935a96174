theorem callR_no {e y : MEnt} {k : Nat} {st : List AV} {sh : List Kd} {x : Nat × Lcs × List AV × List Kd × Sto × Nat × Nat} (h : callR e y k st sh = some (.inl x)) : False := by
  unfold callR at h
  dsimp only at h
  split at h
  · split at h
    · cases (gd_in h).2
    · cases (gd_in h).2
    · cases (gd_in h).2
    · cases (gd_in h).2
    · cases h
  · cases h
section
variable {p : Program} {l : Launch} {e : Env} {R : Room} {s : State} {m : MethodId} {args : Array Value} {below : List Frame} {meth : Method} {c : Code} {me : MEnt} {D : va_G} {cA : FieldType → ClassId} {A : Nat → Prop} {ad : Nat → Nat} {pc : Nat} {ls : Lcs} {st : List AV} {sh : List Kd} {σ : Sto} {pc' : Nat} {ls' : Lcs} {st' : List AV} {sh' : List Kd} {σ' : Sto} {dc ds : Nat}
theorem inv_in {idx : Nat} {ks ii : List Nat} (h : invR me idx ks ii pc ls st sh σ = some (.inl (pc', ls', st', sh', σ', dc, ds))) : ∃ i z, (axIt (eC me)).lookup idx = some (i, z) ∧ ii.contains i = true ∧ intrR i pc ls st sh σ = some (.inl (pc', ls', st', sh', σ', dc, ds)) := by
  unfold invR at h
  split at h
  · exact (callR_no (gd_in h).2).elim
  · split at h
    · rename_i i z hlk
      obtain ⟨h1, h2⟩ := gd_in h
      exact ⟨i, z, hlk, h1, h2⟩
    · cases h
theorem upc_cpy {k k' : Nat} {sp dp n : Int} (h1 : r32 sp) (h2 : r32 dp) (h3 : r32 n) (g1 : 0 ≤ sp) (g2 : 0 ≤ dp) (g3 : 0 < n) : (fun j : Nat => Int32.ofInt (upc σ k' dp k sp n k' j)) = va_cpy (fun j : Nat => Int32.ofInt (σ k j)) (fun j : Nat => Int32.ofInt (σ k' j)) (Int32.ofInt sp).toNatClampNeg (Int32.ofInt dp).toNatClampNeg (Int32.ofInt n).toNatClampNeg := by
  funext j
  simp only [va_cpy, upc, clN32 h1, clN32 h2, clN32 h3]
  by_cases h : dp ≤ (j : Int) ∧ (j : Int) < dp + n
  · rw [if_pos ⟨trivial, h⟩, if_pos (by omega)]
    congr 2
    omega
  · rw [if_neg (fun q => h q.2), if_neg (by omega)]
theorem S_invokestatic {idx : Nat} (B : Bd p R s m args meth c me D cA A ad) (hd : decode (eB me) pc = .ok (.invokestatic idx, 3)) (h : stpI me (.invokestatic idx) 3 pc ls st sh σ = some (.inl (pc', ls', st', sh', σ', dc, ds))) : Sim p l e R s m args below meth c me D cA A ad pc ls st sh σ pc' ls' st' sh' σ' dc ds := by
  obtain ⟨i, z, hlk, hii, h9⟩ := inv_in h
  clear h
  have hi0 : i = 0 := by simpa using hii
  subst hi0
  obtain ⟨hx, hb, hr, hml, hown, hts, hlocks, hin, hK, hA, hX, hV, hfr, hlo⟩ := B
  have ho := axI_ok _ _ (lookup_mem hlk)
  simp only [okIb, okIw, Bool.and_eq_true, decide_eq_true_eq] at ho
  have h : in0 pc ls st sh σ = _ := h9
  clear h9
  unfold in0 at h
  split at h
  · rename_i n dp k' sp k r
    obtain ⟨h1, h2⟩ := gd_in h
    simp only [Bool.and_eq_true, decide_eq_true_eq] at h1
    obtain ⟨⟨⟨⟨⟨g1, g2⟩, g3⟩, g4⟩, g5⟩, g6⟩ := h1
    obtain ⟨rfl, rfl, rfl, rfl, rfl, rfl, rfl⟩ := nx_in h2
    intro lsA H locs cells slots Q F Wd _ _ kk
    have r3 : r32 n := F.hd
    have r2 : r32 dp := F.tl.hd
    have r1 : r32 sp := F.tl.tl.tl.hd
    have alx : ∀ (q : Nat) (b : Int), 0 ≤ b → b + n ≤ aln sh .int q → 0 < b + n → ∃ w : Nat, sh[q]? = some (.inr (.inl (.int, w))) ∧ b + n ≤ w := by
      intro q b hb0 hb1 hn0
      obtain ⟨w, hw, -⟩ := aln_pos (i := b + n - 1) (k := q) (sh := sh) (ty := .int) (by omega) (by omega)
      refine ⟨w, hw, ?_⟩
      simp only [aln, hw, if_true] at hb1
      exact hb1
    obtain ⟨w0, hk, hw0⟩ := alx k sp g1 g4 (by omega)
    obtain ⟨w1, hk', hw1⟩ := alx k' dp g2 g5 (by omega)
    have e1 : (wl ad cA sh σ).set k' (ad k', .inl (cA .int, w1, .inl (va_cpy (fun j : Nat => Int32.ofInt (σ k j)) (fun j : Nat => Int32.ofInt (σ k' j)) (Int32.ofInt sp).toNatClampNeg (Int32.ofInt dp).toNatClampNeg (Int32.ofInt n).toNatClampNeg))) = wl ad cA sh (upc σ k' dp k sp n) := by
      rw [← upc_cpy r1 r2 r3 g1 g2 g3]
      exact wl_set (q := .inr (.inl (.int, w1))) (len_of hk') rfl hk' (fun _ _ => rfl) (fun j hj => by funext i; simp [upc, hj])
    refine va_copyi hx hb (by rw [hml]; exact F.1.1.symm) hown (hts _ (gw_of ho.1 rfl)) (hts _ gw_acN) (hts _ gw_acS) (hts _ gw_acI) hK Wd.1 Wd.2.1 Wd.2.2.1 k k' 0 0 (wl_at hk) (wl_at hk') ty_int ty_int rfl (by rw [← of0, lt32 r1 r32_0]; omega) (by rw [← of0, lt32 r2 r32_0]; omega) (by rw [← of0, lt32 r3 r32_0]; omega) (by rw [clN32 r1, clN32 r3]; omega) (by rw [clN32 r2, clN32 r3]; omega) (fun _ _ => rfl) (by omega) (by rw [catS_map]; show _ + (7 + 11) ≤ _; omega) hd fun H1 locs1 hP1 hD1 hS1 => ?_
    rw [e1] at hP1 hD1
    refine kk ad lsA H1 locs1 Ag.rf F.tl.tl.tl.tl.tl ⟨hP1, hD1, hS1, ?_, Wd.2.2.2.2⟩ (Nat.le_refl _)
    intro q' kd h'
    by_cases e : q' = k'
    · subst e
      rw [hk'] at h'; cases h'
      intro j hj
      show r32 _
      by_cases hq : dp ≤ (j : Int) ∧ (j : Int) < dp + n
      · simp only [upc, hq, and_self, if_true]
        have := Wd.val hk (i := sp + ((j : Int) - dp)) (by omega) (by omega)
        exact this
      · simp only [upc, hq, and_false, if_false]
        exact Wd.2.2.2.1 q' _ hk' j hj
    · rw [show upc σ k' dp k sp n q' = σ q' from by funext i; simp [upc, e]]
      exact Wd.2.2.2.1 q' kd h'
  · cases h
theorem S_invokespecial {idx : Nat} (B : Bd p R s m args meth c me D cA A ad) (hd : decode (eB me) pc = .ok (.invokespecial idx, 3)) (h : stpI me (.invokespecial idx) 3 pc ls st sh σ = some (.inl (pc', ls', st', sh', σ', dc, ds))) : Sim p l e R s m args below meth c me D cA A ad pc ls st sh σ pc' ls' st' sh' σ' dc ds := by
  obtain ⟨i, z, hlk, hii, h9⟩ := inv_in h
  clear h
  have hi0 : i = 3 := by simpa using hii
  subst hi0
  obtain ⟨hx, hb, hr, hml, hown, hts, hlocks, hin, hK, hA, hX, hV, hfr, hlo⟩ := B
  have ho := axI_ok _ _ (lookup_mem hlk)
  simp only [okIb, okIw, Bool.and_eq_true, decide_eq_true_eq] at ho
  have h : in3 pc ls st sh σ = _ := h9
  clear h9
  unfold in3 at h
  split at h
  · obtain ⟨h1, h2⟩ := gd_in h
    have h1 := of_decide_eq_true h1
    obtain ⟨rfl, rfl, rfl, rfl, rfl, rfl, rfl⟩ := nx_in h2
    refine Sim_fr fun lsA H locs cells slots Q F kk => ?_
    refine W.objInit hx hb hown (hts _ (gw_of ho.1 rfl)) (hts _ gw_objI) (hts _ gw_objC) rfl (by rw [hml]; exact F.1.1) rfl hd (by omega) ?_ (kk lsA F.tl)
    rw [catS_map]
    show 2 * 0 + _ + 12 ≤ _
    omega
  · cases h
end
