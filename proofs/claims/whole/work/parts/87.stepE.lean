section
variable {p : Program} {l : Launch} {e : Env} {R : Room} {s : State} {m : MethodId} {args : Array Value} {below : List Frame} {meth : Method} {c : Code} {me : MEnt} {D : va_G} {cA : FieldType → ClassId} {A : Nat → Prop} {ad : Nat → Nat} {pc : Nat} {ls : Lcs} {st : List AV} {sh : List Kd} {σ : Sto} {pc' : Nat} {ls' : Lcs} {st' : List AV} {sh' : List Kd} {σ' : Sto} {dc ds : Nat}
theorem fV_ne {ci : Nat} {z z' : Int → Int} {j : Nat} {f : Option (Option Nat)} (h : f = none → z j = z' j) : fV ad ci z j f = fV ad ci z' j f := by
  cases f with
  | none => simp only [fV, h rfl]
  | some r => rfl
theorem put_prim {k ci j : Nat} {n : Int} {fs : List (Option (Option Nat))} {v : Value} (hk : sh[k]? = some (.inl (ci, fs))) (hf : fs[j]? = some none) (hv : pV (axTy ci j) n = v) : (wl ad cA sh σ).set k (ad k, .inr (ci, (fs.mapIdx (fun j f => fV ad ci (σ k) j f)).set j v)) = wl ad cA sh (up σ k j n) := by
  have e1 : (fs.mapIdx (fun j f => fV ad ci (σ k) j f)).set j v = fs.mapIdx (fun i f => fV ad ci (up σ k j n k) i f) := by
    refine mapIdx_set rfl (List.getElem?_eq_some_iff.mp hf).1 (fun x hx => ?_) (fun i x hi hx => ⟨hx, fV_ne fun _ => ?_⟩)
    · rw [hf] at hx; cases hx
      simp only [fV, up, and_self, if_true]; exact hv
    · have : ¬ (i : Int) = (j : Int) := by omega
      simp only [up, this, and_false, if_false]
  rw [e1]
  exact wl_set (q := .inl (ci, fs)) (len_of hk) rfl hk (fun _ _ => rfl) up_same
theorem prim_ok {k ci j : Nat} {n : Int} {fs : List (Option (Option Nat))} (hs : sOK sh σ) (hk : sh[k]? = some (.inl (ci, fs))) (hn : tOK (axTy ci j) n) : sOK sh (up σ k j n) := by
  refine sOK_up hs hk ⟨fun i hi => ?_, (hs k _ hk).2⟩
  by_cases q : (i : Int) = (j : Int)
  · have : i = j := by omega
    subst this
    simp only [up, and_self, if_true]; exact hn
  · simp only [up, q, and_false, if_false]; exact (hs k _ hk).1 i hi
theorem S_putfield {idx : Nat} (B : Bd p R s m args meth c me D cA A ad) (hd : decode (eB me) pc = .ok (.putfield idx, 3)) (h : stpI me (.putfield idx) 3 pc ls st sh σ = some (.inl (pc', ls', st', sh', σ', dc, ds))) : Sim p l e R s m args below meth c me D cA A ad pc ls st sh σ pc' ls' st' sh' σ' dc ds := by
  unfold stpI at h
  dsimp only at h
  split at h
  · rename_i ci j z v k r hlk
    obtain ⟨nest, z⟩ := z
    obtain ⟨hfin, h⟩ := gd_in h
    rcases v with n | n | rr
    · dsimp only at h
      obtain ⟨h1, h2⟩ := gd_in h
      rw [Bool.and_eq_true] at h1
      obtain ⟨rfl, rfl, rfl, rfl, rfl, rfl, rfl⟩ := nx_in h2
      obtain ⟨fs, hk, hf⟩ := okP_in h1.1
      intro lsA H locs cells slots Q F Wd _ _ kk
      have hv : r32 n := F.hd
      have hp : pV (axTy ci j) n = .int (Int32.ofInt n) ∧ tOK (axTy ci j) n ∧ narrow (axTy ci j) (.int (Int32.ofInt n)) = .int (Int32.ofInt n) ∧ fits (axTy ci j) (.int (Int32.ofInt n)) = true := by
        have h3 := h1.2
        cases ht : axTy ci j <;> rw [ht] at h3 <;> first | (cases h3; done) | skip
        · exact ⟨rfl, hv, rfl, rfl⟩
        · have h4 : n = 0 ∨ n = 1 := by simpa [fitT] using h3
          rcases h4 with rfl | rfl
          · exact ⟨rfl, Or.inl rfl, rfl, rfl⟩
          · exact ⟨rfl, Or.inr rfl, rfl, rfl⟩
      refine W_put B hd hlk Wd.1 Wd.2.1 Wd.2.2.1 hk hf hfin hp.2.2.1 hp.2.2.2 fun H1 locs1 hP1 hD1 hS1 => ?_
      rw [put_prim (v := cV ad (.inl n)) hk hf hp.1] at hP1 hD1
      exact kk ad lsA H1 locs1 Ag.rf F.tl.tl ⟨hP1, hD1, hS1, prim_ok Wd.2.2.2.1 hk hp.2.1, Wd.2.2.2.2⟩ (Nat.le_refl _)
    · dsimp only at h
      obtain ⟨h1, h2⟩ := gd_in h
      rw [Bool.and_eq_true] at h1
      obtain ⟨rfl, rfl, rfl, rfl, rfl, rfl, rfl⟩ := nx_in h2
      obtain ⟨fs, hk, hf⟩ := okP_in h1.1
      intro lsA H locs cells slots Q F Wd _ _ kk
      have hv : r64 n := F.hd
      have hp : pV (axTy ci j) n = .long (Int64.ofInt n) ∧ tOK (axTy ci j) n ∧ narrow (axTy ci j) (.long (Int64.ofInt n)) = .long (Int64.ofInt n) ∧ fits (axTy ci j) (.long (Int64.ofInt n)) = true := by
        have h3 := h1.2
        cases ht : axTy ci j <;> rw [ht] at h3 <;> first | (cases h3; done) | skip
        exact ⟨rfl, hv, rfl, rfl⟩
      refine W_put B hd hlk Wd.1 Wd.2.1 Wd.2.2.1 hk hf hfin hp.2.2.1 hp.2.2.2 fun H1 locs1 hP1 hD1 hS1 => ?_
      rw [put_prim (v := cV ad (.inr (.inl n))) hk hf hp.1] at hP1 hD1
      exact kk ad lsA H1 locs1 Ag.rf F.tl.tl ⟨hP1, hD1, hS1, prim_ok Wd.2.2.2.1 hk hp.2.1, Wd.2.2.2.2⟩ (Nat.le_refl _)
    · dsimp only at h
      obtain ⟨h1, h2⟩ := gd_in h
      rw [Bool.and_eq_true] at h1
      obtain ⟨rfl, rfl, rfl, rfl, rfl, rfl, rfl⟩ := nx_in h2
      obtain ⟨fs, r0, hk, hf⟩ := okR_in h1.1
      intro lsA H locs cells slots Q F Wd _ _ kk
      have hv : rOK sh.length rr := F.hd
      have hjl := (List.getElem?_eq_some_iff.mp hf).1
      have hp : narrow (axTy ci j) (cV ad (.inr (.inr rr))) = cV ad (.inr (.inr rr)) ∧ fits (axTy ci j) (cV ad (.inr (.inr rr))) = true := by
        have h3 := h1.2
        cases ht : axTy ci j <;> rw [ht] at h3 <;> first | (cases h3; done) | skip
        · rcases rr with _ | a <;> exact ⟨rfl, rfl⟩
        · rcases rr with _ | a <;> exact ⟨rfl, rfl⟩
      have hsr : setR sh k j rr = sh.set k (.inl (ci, fs.set j (some rr))) := by simp only [setR, hk]
      have hkl := len_of hk
      have e1 : (fs.mapIdx (fun j f => fV ad ci (σ k) j f)).set j (cV ad (.inr (.inr rr))) = (fs.set j (some rr)).mapIdx (fun i f => fV ad ci (σ k) i f) := by
        refine mapIdx_set (by simp) hjl (fun x hx => ?_) (fun i x hi hx => ⟨?_, rfl⟩)
        · rw [List.getElem?_set, if_pos rfl, if_pos hjl] at hx; cases hx; rfl
        · rw [List.getElem?_set, if_neg (fun q => hi q.symm)]; exact hx
      have e2 : (wl ad cA sh σ).set k (ad k, .inr (ci, (fs.mapIdx (fun j f => fV ad ci (σ k) j f)).set j (cV ad (.inr (.inr rr))))) = wl ad cA (setR sh k j rr) σ := by
        rw [e1, hsr]
        exact wl_set (q := .inl (ci, fs.set j (some rr))) hkl (by simp) (by rw [List.getElem?_set, if_pos rfl, if_pos hkl]) (fun i hi => by rw [List.getElem?_set, if_neg (fun q => hi q.symm)]) (fun _ _ => rfl)
      have hll : (setR sh k j rr).length = sh.length := by rw [hsr]; simp
      refine W_put B hd hlk Wd.1 Wd.2.1 Wd.2.2.1 hk hf hfin hp.1 hp.2 fun H1 locs1 hP1 hD1 hS1 => ?_
      rw [e2] at hP1 hD1
      have hF : Fr ad me lsA ls r (setR sh k j rr).length := by rw [hll]; exact F.tl.tl
      refine kk ad lsA H1 locs1 Ag.rf hF ⟨hP1, hD1, hS1, ?_, by rw [hll]; exact Wd.2.2.2.2⟩ (Nat.le_of_eq hll.symm)
      intro k' q' h'
      rw [hll]
      rw [hsr, List.getElem?_set] at h'
      by_cases e : k = k'
      · subst e
        rw [if_pos rfl, if_pos hkl] at h'
        cases h'
        have hko := Wd.2.2.2.1 k _ hk
        refine ⟨fun i hi => ?_, fun i r' hi => ?_⟩
        · rw [List.getElem?_set] at hi
          by_cases e3 : j = i
          · subst e3; rw [if_pos rfl, if_pos hjl] at hi; cases hi
          · rw [if_neg e3] at hi; exact hko.1 i hi
        · rw [List.getElem?_set] at hi
          by_cases e3 : j = i
          · subst e3; rw [if_pos rfl, if_pos hjl] at hi; cases hi; exact hv
          · rw [if_neg e3] at hi; exact hko.2 i r' hi
      · rw [if_neg e] at h'; exact Wd.2.2.2.1 k' q' h'
  · cases h
theorem alloc {q : Nat} {kd : Kd} {lsA : Array Slot} {H1 : Heap} {locs : List Loc} (F : Fr ad me lsA ls st sh.length) (hs : sOK sh σ) (h9 : sh.length < 900) (hkd : kOK sh.length (fun _ => 0) kd) (hP : va_P D vwCl (wl ad cA sh σ ++ [(q, cE ad cA (fun _ => 0) kd)]) H1) (hD : va_D A (wl ad cA sh σ ++ [(q, cE ad cA (fun _ => 0) kd)])) (hS : va_S A s.heap H1 locs) :
    ∃ ad' : Nat → Nat, ad' sh.length = q ∧ Ag sh.length ad ad' ∧ Fr ad' me lsA ls (.inr (.inr (some sh.length)) :: st) (sh ++ [kd]).length ∧ Wo s D cA ad' A H1 locs (sh ++ [kd]) (upz σ sh.length) := by
  refine ⟨fun k => if k = sh.length then q else ad k, by simp, ?_⟩
  generalize had : (fun k => if k = sh.length then q else ad k) = ad'
  have hq : ad' sh.length = q := by rw [← had]; simp
  have hag : Ag sh.length ad ad' := fun k hk => by
    rw [← had]
    exact if_neg (by omega)
  have hz : upz σ sh.length sh.length = fun _ => 0 := by funext i; simp [upz]
  have hup : ∀ j, j ≠ sh.length → upz σ sh.length j = σ j := fun j hj => by funext i; simp [upz, hj]
  have e1 : wl ad cA sh σ ++ [(q, cE ad cA (fun _ => 0) kd)] = wl ad' cA (sh ++ [kd]) (upz σ sh.length) := by
    rw [← wl_app (σ := σ) hup, hz, wl_ag hag hs, hq, cE_ag hag hkd]
  rw [e1] at hP hD
  have hlen : (sh ++ [kd]).length = sh.length + 1 := by simp
  refine ⟨hag, ⟨by rw [loc_ag hag ls 0 F.2.2.1]; exact F.1, F.2.1, fun v hv => (F.2.2.1 v hv).mono (by omega), fun v hv => ?_⟩, hP, hD, hS, ?_, by omega⟩
  · rcases List.mem_cons.mp hv with rfl | hv
    · intro k hk; cases hk; omega
    · exact (F.2.2.2 v hv).mono (by omega)
  · intro k q' h
    rw [hlen]
    by_cases hk : k < sh.length
    · rw [List.getElem?_append_left hk] at h
      rw [hup k (by omega)]
      exact (hs k q' h).mono (by omega)
    · have hk2 : k = sh.length := by
        have := len_of h
        rw [hlen] at this
        omega
      subst hk2
      simp at h
      subst h
      rw [hz]
      exact hkd.mono (by omega)
theorem S_new {idx : Nat} (B : Bd p R s m args meth c me D cA A ad) (hd : decode (eB me) pc = .ok (.new idx, 3)) (h : stpI me (.new idx) 3 pc ls st sh σ = some (.inl (pc', ls', st', sh', σ', dc, ds))) : Sim p l e R s m args below meth c me D cA A ad pc ls st sh σ pc' ls' st' sh' σ' dc ds := by
  obtain ⟨hx, hb, hr, hml, hown, hts, hlocks, hin, hK, hA, hX, hV, hfr, hlo⟩ := B
  unfold stpI at h
  dsimp only at h
  split at h
  · rename_i ci z hlk
    split at h
    · rename_i hc
      simp only [Option.some.injEq, Sum.inl.injEq, Prod.mk.injEq] at h
      obtain ⟨rfl, rfl, rfl, rfl, rfl, rfl, rfl⟩ := h
      have ho := axN_ok _ _ (lookup_mem hlk)
      simp only [okNb, Bool.and_eq_true, decide_eq_true_eq] at ho
      obtain ⟨q1, q2, q3, q4, q5, q6, q7, q8, q9⟩ := klsT hc.2
      intro lsA H locs cells slots Q F Wd hc1 hs1 kk
      have hkd : kOK sh.length (fun _ => 0) (.inl (ci, axD ci)) := by
        refine ⟨fun j hj => ?_, fun j r hj => ?_⟩
        · have hjl : j < axN ci := by rw [← q5]; exact (List.getElem?_eq_some_iff.mp hj).1
          by_cases hp : isJ (axTy ci j) = true ∨ isP (axTy ci j) = true
          · cases ht : axTy ci j <;> rw [ht] at hp <;> first | (simp [isJ, isP] at hp; done) | exact r32_0 | exact r64_0 | exact Or.inl rfl
          · rw [(q9 j hjl hp).1] at hj; cases hj
        · have hjl : j < axN ci := by rw [← q5]; exact (List.getElem?_eq_some_iff.mp hj).1
          by_cases hp : isJ (axTy ci j) = true ∨ isP (axTy ci j) = true
          · rw [q8 j hjl hp] at hj; cases hj
          · rw [(q9 j hjl hp).1] at hj; cases hj; intro k hk; cases hk
      refine va_new (fs := (axD ci).mapIdx (fun j f => fV ad ci (fun _ => 0) j f)) hx hb hts q2 (axTy ci) q4 hown (hts _ (gw_of ho.1 rfl)) (hts _ q6) (hts _ q7) hK Wd.1 Wd.2.1 Wd.2.2.1 hA q1 (fun j hj => ?_) hc1 hs1 hd fun q H1 hP hD hS => ?_
      · by_cases hp : isJ (axTy ci j) = true ∨ isP (axTy ci j) = true
        · simp only [vp_V, List.getD_eq_getElem?_getD]
          rw [fV_get (q8 j hj hp)]
          cases ht : axTy ci j <;> rw [ht] at hp <;> first | (simp [isJ, isP] at hp; done) | (simp only [Option.getD_some, fV, ht]; rfl)
        · simp only [vp_V, List.getD_eq_getElem?_getD]
          rw [fV_get (q9 j hj hp).1]
          have h3 := (q9 j hj hp).2
          cases ht : axTy ci j <;> rw [ht] at h3 <;> first | (cases h3; done) | rfl
      · obtain ⟨ad', g1, g2, g3, g4⟩ := alloc (kd := .inl (ci, axD ci)) F Wd.2.2.2.1 hc.1 hkd hP hD hS
        have := kk ad' lsA H1 locs g2 g3 g4 (by simp)
        simp only [List.map_cons] at this
        rw [map_ag g2 F.2.2.2] at this
        rw [show cV ad' (.inr (.inr (some sh.length))) = .ref q from by rw [← g1]; rfl] at this
        exact this
    · cases h
  · cases h
theorem RA_eq {U : State} {a b : ClassId} {ty : FieldType} (h1 : va_RA U a ty) (h2 : va_RA U b ty) : a = b := by
  cases ty with
  | object C =>
    obtain ⟨_, _, -, -, -, f1⟩ := h1
    obtain ⟨_, _, -, -, -, f2⟩ := h2
    exact Option.some.inj (f1.symm.trans f2)
  | _ => exact Option.some.inj (Eq.trans (Eq.symm h1) h2)
theorem S_newarray {t : ArrayType} (B : Bd p R s m args meth c me D cA A ad) (hd : decode (eB me) pc = .ok (.newarray t, 2)) (h : stpI me (.newarray t) 2 pc ls st sh σ = some (.inl (pc', ls', st', sh', σ', dc, ds))) : Sim p l e R s m args below meth c me D cA A ad pc ls st sh σ pc' ls' st' sh' σ' dc ds := by
  obtain ⟨hx, hb, hr, hml, hown, hts, hlocks, hin, hK, hA, hX, hV, hfr, hlo⟩ := B
  unfold stpI at h
  dsimp only at h
  split at h
  · rename_i n r
    split at h
    · rename_i hc
      obtain ⟨hc0, hc1, hc2, hc3⟩ := hc
      simp only [Option.some.injEq, Sum.inl.injEq, Prod.mk.injEq] at h
      obtain ⟨rfl, rfl, rfl, rfl, rfl, rfl, rfl⟩ := h
      intro lsA H locs cells slots Q F Wd hcc hss kk
      have hn : r32 n := F.hd
      generalize hty : newarray.typeOf t = ty at *
      have key : Cond.arrayClass ty ∈ gwT ∧ componentBytes ty ≤ 8 ∧ defaultValue ty = .int 0 ∧ tOK ty 0 ∧ ∃ i : Nat, (axtys cA)[i]? = some (cA ty, ty) := by
        rcases hc3 with rfl | rfl | rfl
        · exact ⟨gw_arI, by decide, rfl, r32_0, 0, rfl⟩
        · exact ⟨gw_arB, by decide, rfl, ⟨by decide, by decide⟩, 1, rfl⟩
        · exact ⟨gw_arZ, by decide, rfl, Or.inl rfl, 2, rfl⟩
      obtain ⟨k1, k2, k3, k4, i0, k5⟩ := key
      refine va_newa (ty := ty) (N' := n.toNat) (a0 := (n.toNat, .inl (fun _ => 0))) hx hb (by rw [hty]; exact hts _ k1) hty hK Wd.1 Wd.2.1 Wd.2.2.1 hA (fun cA' => by rw [k3]; rfl) (by rw [← of0, lt32 hn r32_0]; omega) (clN32 hn) (Nat.le_trans (Nat.mul_le_mul (show n.toNat ≤ 10000 by omega) k2) (by decide)) hcc hss hd fun q cA' H1 hK' hP hD hS => ?_
      have e1 : cA' = cA ty := by
        refine RA_eq (hK'.2 (axtys cA).length (cA', ty) ?_).2 (hK.2 i0 (cA ty, ty) k5).2
        rw [List.getElem?_append_right (Nat.le_refl _)]; simp
      subst e1
      obtain ⟨ad', g1, g2, g3, g4⟩ := alloc (kd := .inr (.inl (ty, n.toNat))) F.tl Wd.2.2.2.1 hc0 (fun j hj => k4) hP hD hS
      have := kk ad' lsA H1 locs g2 g3 g4 (by simp)
      simp only [List.map_cons] at this
      rw [map_ag g2 F.tl.2.2.2] at this
      rw [show cV ad' (.inr (.inr (some sh.length))) = .ref q from by rw [← g1]; rfl] at this
      exact this
    · cases h
  · cases h
theorem S_anewarray {idx : Nat} (B : Bd p R s m args meth c me D cA A ad) (hd : decode (eB me) pc = .ok (.anewarray idx, 3)) (h : stpI me (.anewarray idx) 3 pc ls st sh σ = some (.inl (pc', ls', st', sh', σ', dc, ds))) : Sim p l e R s m args below meth c me D cA A ad pc ls st sh σ pc' ls' st' sh' σ' dc ds := by
  obtain ⟨hx, hb, hr, hml, hown, hts, hlocks, hin, hK, hA, hX, hV, hfr, hlo⟩ := B
  unfold stpI at h
  dsimp only at h
  split at h
  · rename_i ci z n r hlk
    split at h
    · rename_i hc
      obtain ⟨hc0, hc1, hc2, rfl⟩ := hc
      simp only [Option.some.injEq, Sum.inl.injEq, Prod.mk.injEq] at h
      obtain ⟨rfl, rfl, rfl, rfl, rfl, rfl, rfl⟩ := h
      have ho := axN_ok _ _ (lookup_mem hlk)
      simp only [okNb, Bool.and_eq_true, decide_eq_true_eq] at ho
      intro lsA H locs cells slots Q F Wd hcc hss kk
      have hn : r32 n := F.hd
      refine va_newq (C := RX8) (N' := n.toNat) hx hb hown (hts _ (gw_of ho.1 rfl)) hX.2.2.2.2.1 hK Wd.1 Wd.2.1 Wd.2.2.1 hA (by rw [← of0, lt32 hn r32_0]; omega) (clN32 hn) (by omega) hcc hss hd fun q cA' H1 hK' hP hD hS => ?_
      have e1 : cA' = cA (.object RX8) := by
        refine RA_eq (hK'.2 (axtys cA).length (cA', .object RX8) ?_).2 (hK.2 3 (cA (.object RX8), .object RX8) rfl).2
        rw [List.getElem?_append_right (Nat.le_refl _)]; simp
      subst e1
      have e2 : cE ad cA (fun _ => 0) (.inr (.inr (List.replicate n.toNat none))) = .inl (cA (.object RX8), n.toNat, .inr (.inr (.inr (.inr (fun _ => none))))) := by
        simp only [cE, List.length_replicate]
        congr 8
        funext j
        rw [List.getD_eq_getElem?_getD, List.getElem?_replicate]
        split <;> rfl
      rw [← e2] at hP hD
      obtain ⟨ad', g1, g2, g3, g4⟩ := alloc (kd := .inr (.inr (List.replicate n.toNat none))) F.tl Wd.2.2.2.1 hc0 (fun j r hj => by
        rw [List.getElem?_replicate] at hj
        split at hj
        · cases hj; intro k hk; cases hk
        · cases hj) hP hD hS
      have := kk ad' lsA H1 locs g2 g3 g4 (by simp)
      simp only [List.map_cons] at this
      rw [map_ag g2 F.tl.2.2.2] at this
      rw [show cV ad' (.inr (.inr (some sh.length))) = .ref q from by rw [← g1]; rfl] at this
      exact this
    · cases h
  · cases h
theorem rln_pos {k : Nat} {i : Int} (h0 : 0 ≤ i) (h : i < rln sh k) : ∃ l0, sh[k]? = some (.inr (.inr l0)) ∧ i < l0.length := by
  unfold rln at h
  split at h
  · rename_i l0 hk; exact ⟨l0, hk, h⟩
  · omega
theorem S_aaload (B : Bd p R s m args meth c me D cA A ad) (hd : decode (eB me) pc = .ok (.aaload, 1)) (h : stpI me .aaload 1 pc ls st sh σ = some (.inl (pc', ls', st', sh', σ', dc, ds))) : Sim p l e R s m args below meth c me D cA A ad pc ls st sh σ pc' ls' st' sh' σ' dc ds := by
  unfold stpI at h
  dsimp only at h
  split at h
  · rename_i i k r
    obtain ⟨h1, h2⟩ := gd_in h
    simp only [Bool.and_eq_true, decide_eq_true_eq] at h1
    obtain ⟨l0, hk, hn⟩ := rln_pos h1.1 h1.2
    obtain ⟨rfl, rfl, rfl, rfl, rfl, rfl, rfl⟩ := nx_in h2
    intro lsA H locs cells slots Q F Wd _ _ kk
    have hi : r32 i := F.hd
    have hil : i.toNat < l0.length := by omega
    have er : rat sh k i = l0[i.toNat] := by
      simp only [rat, hk]
      rw [List.getD_eq_getElem?_getD, List.getElem?_eq_getElem hil]; rfl
    have hv : rOK sh.length (rat sh k i) := by
      rw [er]
      exact Wd.2.2.2.1 k _ hk i.toNat _ (List.getElem?_eq_getElem hil)
    have kk := kk ad lsA H locs Ag.rf (F.tl.tl.push (v := .inr (.inr (rat sh k i))) hv) Wd (Nat.le_refl _)
    refine va_aldq B.1 B.2.1 B.2.2.2.2.2.2.2.2.1 Wd.1 k 3 (wl_at hk) ty_obj (in32 hi h1.1 hn) hd ?_
    have e2 : va_rf ((l0.getD (Int32.ofInt i).toNatClampNeg none).map ad) = cV ad (.inr (.inr (rat sh k i))) := by
      rw [clN32 hi, List.getD_eq_getElem?_getD, List.getElem?_eq_getElem hil, er]
      simp only [Option.getD_some]
      cases l0[i.toNat] <;> rfl
    rw [e2]
    exact kk
  · cases h
theorem S_aastore (B : Bd p R s m args meth c me D cA A ad) (hd : decode (eB me) pc = .ok (.aastore, 1)) (h : stpI me .aastore 1 pc ls st sh σ = some (.inl (pc', ls', st', sh', σ', dc, ds))) : Sim p l e R s m args below meth c me D cA A ad pc ls st sh σ pc' ls' st' sh' σ' dc ds := by
  unfold stpI at h
  dsimp only at h
  split at h
  · rename_i v i k r
    obtain ⟨h1, h2⟩ := gd_in h
    simp only [Bool.and_eq_true, decide_eq_true_eq] at h1
    obtain ⟨h1, h3⟩ := h1
    obtain ⟨l0, hk, hn⟩ := rln_pos h1.1 h1.2
    obtain ⟨fs, hv⟩ := okC_in h3
    obtain ⟨rfl, rfl, rfl, rfl, rfl, rfl, rfl⟩ := nx_in h2
    intro lsA H locs cells slots Q F Wd _ _ kk
    have hi : r32 i := F.tl.hd
    have hvr : rOK sh.length (some v) := F.hd
    have hil : i.toNat < l0.length := by omega
    have hkl := len_of hk
    have hsr : setQ sh k i (some v) = sh.set k (.inr (.inr (l0.set i.toNat (some v)))) := by simp only [setQ, hk]
    have hll : (setQ sh k i (some v)).length = sh.length := by rw [hsr]; simp
    have e0 : va_up (fun j => (l0.getD j none).map ad) (Int32.ofInt i).toNatClampNeg (some (ad v)) = fun j => ((l0.set i.toNat (some v)).getD j none).map ad := by
      funext j
      simp only [va_up, clN32 hi, List.getD_eq_getElem?_getD, List.getElem?_set]
      by_cases e : j = i.toNat
      · subst e; rw [if_pos rfl, if_pos rfl, if_pos hil]; rfl
      · rw [if_neg e, if_neg (fun q => e q.symm)]
    have e2 : (wl ad cA sh σ).set k (ad k, .inl (cA (.object RX8), l0.length, .inr (.inr (.inr (.inr (va_up (fun j => (l0.getD j none).map ad) (Int32.ofInt i).toNatClampNeg (some (ad v)))))))) = wl ad cA (setQ sh k i (some v)) σ := by
      rw [e0, hsr]
      have := wl_set (ad := ad) (cA := cA) (σ := σ) (σ' := σ) (sh' := sh.set k (.inr (.inr (l0.set i.toNat (some v))))) (q := .inr (.inr (l0.set i.toNat (some v)))) hkl (by simp) (by rw [List.getElem?_set, if_pos rfl, if_pos hkl]) (fun i hi => by rw [List.getElem?_set, if_neg (fun q => hi q.symm)]) (fun _ _ => rfl)
      rw [← this]
      simp only [cE, List.length_set]
    refine va_astq (r := (RX8, TX8, 5)) B.1 B.2.1 B.2.2.2.2.2.2.2.2.1 Wd.1 Wd.2.1 Wd.2.2.1 k 3 v 8 (wl_at hk) ty_obj (wl_at hv) rfl (in32 hi h1.1 hn) hd fun H1 locs1 hP1 hD1 hS1 => ?_
    rw [e2] at hP1 hD1
    have hF : Fr ad me lsA ls r (setQ sh k i (some v)).length := by rw [hll]; exact F.tl.tl.tl
    refine kk ad lsA H1 locs1 Ag.rf hF ⟨hP1, hD1, hS1, ?_, by rw [hll]; exact Wd.2.2.2.2⟩ (Nat.le_of_eq hll.symm)
    intro k' q' h'
    rw [hll]
    rw [hsr, List.getElem?_set] at h'
    by_cases e : k = k'
    · subst e
      rw [if_pos rfl, if_pos hkl] at h'
      cases h'
      intro j r' hj
      rw [List.getElem?_set] at hj
      by_cases e3 : i.toNat = j
      · subst e3; rw [if_pos rfl, if_pos hil] at hj; cases hj; exact hvr
      · rw [if_neg e3] at hj; exact Wd.2.2.2.1 k _ hk j r' hj
    · rw [if_neg e] at h'; exact Wd.2.2.2.1 k' q' h'
  · cases h
end
