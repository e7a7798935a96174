theorem mapIdx_set {α β : Type} {f g : Nat → α → β} {l l' : List α} {j : Nat} {v : β} (hl : l'.length = l.length) (hj : j < l.length) (h1 : ∀ x, l'[j]? = some x → g j x = v) (h2 : ∀ i x, i ≠ j → l[i]? = some x → l'[i]? = some x ∧ g i x = f i x) : (l.mapIdx f).set j v = l'.mapIdx g := by
  apply List.ext_getElem?
  intro i
  rw [List.getElem?_set, List.getElem?_mapIdx, List.getElem?_mapIdx]
  by_cases hi : j = i
  · subst hi
    rw [if_pos rfl, List.length_mapIdx, if_pos hj]
    have : j < l'.length := by omega
    rw [List.getElem?_eq_getElem this]
    simp only [Option.map_some]
    rw [h1 _ (List.getElem?_eq_getElem this)]
  · rw [if_neg hi]
    cases hx : l[i]? with
    | none =>
      have : l.length ≤ i := by simpa using hx
      rw [List.getElem?_eq_none (by omega : l'.length ≤ i)]; rfl
    | some x =>
      obtain ⟨a1, a2⟩ := h2 i x (fun q => hi q.symm) hx
      rw [a1]; simp only [Option.map_some, a2]
theorem okP_in {sh : List Kd} {k ci j : Nat} (h : okP sh k ci j = true) : ∃ fs, sh[k]? = some (.inl (ci, fs)) ∧ fs[j]? = some none := by
  unfold okP at h
  split at h
  · rename_i c fs hk
    rw [Bool.and_eq_true] at h
    have hc : c = ci := by simpa using h.1
    subst hc
    refine ⟨fs, hk, ?_⟩
    have h2 := h.2
    split at h2
    · rename_i hj; exact hj
    · cases h2
  · cases h
theorem okR_in {sh : List Kd} {k ci j : Nat} (h : okR sh k ci j = true) : ∃ fs r, sh[k]? = some (.inl (ci, fs)) ∧ fs[j]? = some (some r) := by
  unfold okR at h
  split at h
  · rename_i c fs hk
    rw [Bool.and_eq_true] at h
    have hc : c = ci := by simpa using h.1
    subst hc
    have h2 := h.2
    split at h2
    · rename_i r hj; exact ⟨fs, r, hk, hj⟩
    · cases h2
  · cases h
theorem okC_in {sh : List Kd} {k ci : Nat} (h : okC sh k ci = true) : ∃ fs, sh[k]? = some (.inl (ci, fs)) := by
  unfold okC at h
  split at h
  · rename_i c fs hk
    have hc : c = ci := by simpa using h
    subst hc
    exact ⟨fs, hk⟩
  · cases h
theorem fV_get {ad : Nat → Nat} {ci : Nat} {z : Int → Int} {fs : List (Option (Option Nat))} {j : Nat} {f : Option (Option Nat)} (h : fs[j]? = some f) : (fs.mapIdx (fun j f => fV ad ci z j f))[j]? = some (fV ad ci z j f) := by
  rw [List.getElem?_mapIdx, h]; rfl
section
variable {p : Program} {l : Launch} {e : Env} {R : Room} {s : State} {m : MethodId} {args : Array Value} {below : List Frame} {meth : Method} {c : Code} {me : MEnt} {D : va_G} {cA : FieldType → ClassId} {A : Nat → Prop} {ad : Nat → Nat} {pc : Nat} {ls : Lcs} {st : List AV} {sh : List Kd} {σ : Sto} {pc' : Nat} {ls' : Lcs} {st' : List AV} {sh' : List Kd} {σ' : Sto} {dc ds : Nat}
/-- a field is read: by its place -/
theorem W_get {idx ci j k : Nat} {nest : Bool} {z : Nat} {fs : List (Option (Option Nat))} {f : Option (Option Nat)} {H : Heap} {locs : List Loc} {cells slots : Nat} {Q : State → Prop} {lsA : Array Slot} {rest : List Value} (B : Bd p R s m args meth c me D cA A ad) (hd : decode (eB me) pc = .ok (.getfield idx, 3)) (hlk : (axFt (eC me)).lookup idx = some (ci, j, nest, z)) (hP : va_P D vwCl (wl ad cA sh σ) H) (hk : sh[k]? = some (.inl (ci, fs))) (hf : fs[j]? = some f) (kk : W p l e R s m args below meth c H locs cells slots Q (F0 m (pc + 3) lsA (fV ad ci (σ k) j f :: rest))) : W p l e R s m args below meth c H locs cells slots Q (F0 m pc lsA (.ref (ad k) :: rest)) := by
  obtain ⟨hx, hb, hr, hml, hown, hts, hlocks, hin, hK, hA, hX, hV, hfr, hlo⟩ := B
  have ho := axF_ok _ _ (lookup_mem hlk)
  simp only [okFb, Bool.and_eq_true, decide_eq_true_eq] at ho
  obtain ⟨⟨⟨h1, h2⟩, h3⟩, h4⟩ := ho
  obtain ⟨q1, q2, q3, q4, -⟩ := klsT h1
  cases nest with
  | true =>
    simp only [okFw, if_true] at h3
    exact va_getN hx hb hts q2 hown hK hP k (wl_at hk) q1 j h2 (va_Nw.use rfl (hX.2.2.2.1 _ (List.mem_of_getElem? h3) rfl)) (fun _ h9 => h9) (fV_get hf) hd kk
  | false =>
    simp only [okFw, Bool.false_eq_true, if_false] at h3
    exact va_get hx hb hts q2 hown hK hP k (wl_at hk) q1 j h2 (hts _ (gw_of h3 rfl)) (fun _ h9 => h9) (fV_get hf) hd kk
theorem S_getfield {idx : Nat} (B : Bd p R s m args meth c me D cA A ad) (hd : decode (eB me) pc = .ok (.getfield idx, 3)) (h : stpI me (.getfield idx) 3 pc ls st sh σ = some (.inl (pc', ls', st', sh', σ', dc, ds))) : Sim p l e R s m args below meth c me D cA A ad pc ls st sh σ pc' ls' st' sh' σ' dc ds := by
  unfold stpI at h
  dsimp only at h
  split at h
  · rename_i ci j z k r hlk
    obtain ⟨nest, z⟩ := z
    split at h
    · rename_i hJ
      obtain ⟨h1, h2⟩ := gd_in h
      obtain ⟨rfl, rfl, rfl, rfl, rfl, rfl, rfl⟩ := nx_in h2
      obtain ⟨fs, hk, hf⟩ := okP_in h1
      intro lsA H locs cells slots Q F Wd _ _ kk
      have hv : tOK (axTy ci j) (σ k j) := (Wd.2.2.2.1 k _ hk).1 j hf
      have hv2 : r64 (σ k j) := by
        cases ht : axTy ci j <;> rw [ht] at hJ hv <;> first | (cases hJ; done) | exact hv
      refine W_get B hd hlk Wd.1 hk hf ?_
      have kk := kk ad lsA H locs Ag.rf (F.tl.push (v := .inr (.inl (σ k j))) hv2) Wd (Nat.le_refl _)
      rw [show fV ad ci (σ k) j none = cV ad (.inr (.inl (σ k j))) from by simp only [fV, pV, hJ, if_true]; rfl]
      exact kk
    · rename_i hJ
      split at h
      · rename_i hI
        obtain ⟨h1, h2⟩ := gd_in h
        obtain ⟨rfl, rfl, rfl, rfl, rfl, rfl, rfl⟩ := nx_in h2
        obtain ⟨fs, hk, hf⟩ := okP_in h1
        intro lsA H locs cells slots Q F Wd _ _ kk
        have hv : tOK (axTy ci j) (σ k j) := (Wd.2.2.2.1 k _ hk).1 j hf
        have hv2 : r32 (σ k j) := by
          cases ht : axTy ci j <;> rw [ht] at hI hv <;> first | (cases hI; done) | exact hv | (have hv' : σ k j = 0 ∨ σ k j = 1 := hv; exact ⟨by omega, by omega⟩)
        refine W_get B hd hlk Wd.1 hk hf ?_
        have kk := kk ad lsA H locs Ag.rf (F.tl.push (v := .inl (σ k j)) hv2) Wd (Nat.le_refl _)
        rw [show fV ad ci (σ k) j none = cV ad (.inl (σ k j)) from by simp only [fV, pV, hJ]; rfl]
        exact kk
      · obtain ⟨h1, h2⟩ := gd_in h
        obtain ⟨rfl, rfl, rfl, rfl, rfl, rfl, rfl⟩ := nx_in h2
        obtain ⟨fs, rr, hk, hf⟩ := okR_in h1
        intro lsA H locs cells slots Q F Wd _ _ kk
        have ht : tgt sh k j = rr := by simp only [tgt, hk, hf]
        rw [ht] at kk
        have hv : vOK sh.length (.inr (.inr rr)) := (Wd.2.2.2.1 k _ hk).2 j rr hf
        refine W_get B hd hlk Wd.1 hk hf ?_
        exact kk ad lsA H locs Ag.rf (F.tl.push hv) Wd (Nat.le_refl _)
  · cases h
/-- a field is written: by its place -/
theorem W_put {idx ci j k : Nat} {nest : Bool} {z : Nat} {fs : List (Option (Option Nat))} {f : Option (Option Nat)} {v : Value} {H : Heap} {locs : List Loc} {cells slots : Nat} {Q : State → Prop} {lsA : Array Slot} {rest : List Value} (B : Bd p R s m args meth c me D cA A ad) (hd : decode (eB me) pc = .ok (.putfield idx, 3)) (hlk : (axFt (eC me)).lookup idx = some (ci, j, nest, z)) (hP : va_P D vwCl (wl ad cA sh σ) H) (hD : va_D A (wl ad cA sh σ)) (hS : va_S A s.heap H locs) (hk : sh[k]? = some (.inl (ci, fs))) (hf : fs[j]? = some f) (hfin : (!(axT ci j).2.2.2 || (((eY me).name == "<init>") && ((axT ci j).1 == axR (eC me)))) = true) (hn : narrow (axTy ci j) v = v) (hfit : fits (axTy ci j) v = true)
    (kk : ∀ (H1 : Heap) (locs1 : List Loc), va_P D vwCl ((wl ad cA sh σ).set k (ad k, .inr (ci, (fs.mapIdx (fun j f => fV ad ci (σ k) j f)).set j v))) H1 → va_D A ((wl ad cA sh σ).set k (ad k, .inr (ci, (fs.mapIdx (fun j f => fV ad ci (σ k) j f)).set j v))) → va_S A s.heap H1 locs1 → W p l e R s m args below meth c H1 locs1 cells slots Q (F0 m (pc + 3) lsA rest)) : W p l e R s m args below meth c H locs cells slots Q (F0 m pc lsA (v :: .ref (ad k) :: rest)) := by
  obtain ⟨hx, hb, hr, hml, hown, hts, hlocks, hin, hK, hA, hX, hV, hfr, hlo⟩ := B
  have ho := axF_ok _ _ (lookup_mem hlk)
  simp only [okFb, Bool.and_eq_true, decide_eq_true_eq] at ho
  obtain ⟨⟨⟨h1, h2⟩, h3⟩, h4⟩ := ho
  obtain ⟨q1, q2, q3, q4, -⟩ := klsT h1
  have hl : j < (fs.mapIdx (fun j f => fV ad ci (σ k) j f)).length := by rw [List.length_mapIdx]; exact (List.getElem?_eq_some_iff.mp hf).1
  cases hff : (axT ci j).2.2.2 with
  | false =>
    cases nest with
    | true =>
      simp only [okFw, if_true] at h3
      exact va_putN hx hb hts q2 (axTy ci) q4 q3 hown hK hP hD hS k (wl_at hk) q1 j h2 (va_Nw.use rfl (hX.2.2.2.1 _ (List.mem_of_getElem? h3) rfl)) (fun _ h9 => h9) hff (q4 j h2) hn hfit hl hd kk
    | false =>
      simp only [okFw, Bool.false_eq_true, if_false] at h3
      exact va_put hx hb hts q2 (axTy ci) q4 q3 hown hK hP hD hS k (wl_at hk) q1 j h2 (hts _ (gw_of h3 rfl)) (fun _ h9 => h9) hff (q4 j h2) hn hfit hl hd kk
  | true =>
    rw [hff] at hfin
    simp only [Bool.not_true, Bool.false_or, Bool.and_eq_true, beq_iff_eq] at hfin
    cases nest with
    | true =>
      exfalso
      simp [hfin.2] at h4
    | false =>
      simp only [okFw, Bool.false_eq_true, if_false] at h3
      exact va_putF hx hb hts q2 (axTy ci) q4 q3 hown hK hP hD hS k (wl_at hk) q1 j h2 (hts _ (gw_of h3 rfl)) (fun _ h9 => h9) hff (hin.trans hfin.1) hfin.2 (q4 j h2) hn hfit hl hd kk
end
