section
theorem Xt_nar {ad : Nat → Nat} {A B : Nat → Prop} {U : State} {H : Heap} (h : Xt ad A U H) (hAB : ∀ q, B q → A q) : Xt ad B U H := by
  obtain ⟨h1, h2, ⟨adV, h3⟩, h4, h5, h6, h7⟩ := h
  exact ⟨fun k a b => ⟨(h1 k a b).1.narrow hAB, (h1 k a b).2.narrow hAB⟩, h2, ⟨adV, h3.narrow hAB⟩, h4, h5, h6.narrow hAB, h7.narrow hAB⟩
theorem wl_fst {ad : Nat → Nat} {cA : FieldType → ClassId} {sh : List Kd} {σ : Sto} {k : Nat} {q : Nat × va_E} (h : (wl ad cA sh σ)[k]? = some q) : k < sh.length ∧ q.1 = ad k := by
  rw [wl_get] at h
  cases hk : sh[k]? with
  | none => rw [hk] at h; cases h
  | some x =>
    rw [hk] at h
    simp only [Option.map_some, Option.some.injEq] at h
    exact ⟨(List.getElem?_eq_some_iff.mp hk).1, by rw [← h]⟩
theorem wl_D {ad : Nat → Nat} {cA : FieldType → ClassId} {sh : List Kd} {σ : Sto} {A : Nat → Prop} (hi : ∀ i j, i < sh.length → j < sh.length → ad i = ad j → i = j) (hA : ∀ i, i < sh.length → A (ad i)) : va_D A (wl ad cA sh σ) := by
  refine ⟨fun i j a b ha hb e => ?_, fun k q hk => ?_⟩
  · obtain ⟨i1, i2⟩ := wl_fst ha
    obtain ⟨j1, j2⟩ := wl_fst hb
    exact hi i j i1 j1 (by rw [← i2, ← j2]; exact e)
  · obtain ⟨k1, k2⟩ := wl_fst hk
    rw [k2]; exact hA k k1
theorem wl_lt {D : va_G} {ad : Nat → Nat} {cA : FieldType → ClassId} {sh : List Kd} {σ : Sto} {H : Heap} (h : va_P D vwCl (wl ad cA sh σ) H) {i : Nat} (hi : i < sh.length) : ad i < H.size := by
  obtain ⟨q, hq⟩ : ∃ q, sh[i]? = some q := ⟨sh[i], List.getElem?_eq_getElem hi⟩
  have hat := h i _ (wl_at hq)
  unfold va_at at hat
  split at hat
  · exact (Array.getElem?_eq_some_iff.mp hat).1
  · obtain ⟨r, -, cell, hc, -⟩ := hat
    exact (Array.getElem?_eq_some_iff.mp hc).1
theorem va_P_out {D : va_G} {cl : List vw_C} {ws : va_W} {H H1 : Heap} (h : va_P D cl ws H) (hk : ∀ (k : Nat) (q : Nat × va_E), ws[k]? = some q → q.1 < H.size → H1[q.1]? = H[q.1]?) : va_P D cl ws H1 := h.kept (fun k q hq => by
  have hat := h k q hq
  refine hk k q hq ?_
  unfold va_at at hat
  split at hat
  · exact (Array.getElem?_eq_some_iff.mp hat).1
  · obtain ⟨r, -, cell, hc, -⟩ := hat
    exact (Array.getElem?_eq_some_iff.mp hc).1)
end
/-- the law's own cells are new -/
abbrev A0 (s : State) : Nat → Prop := fun q => s.heap.size ≤ q
/-- what a call on a world may change -/
def wA (ad : Nat → Nat) (n : Nat) (H : Heap) : Nat → Prop := fun q => (∃ i, i < n ∧ q = ad i) ∨ H.size ≤ q
section
variable {p : Program} {l : Launch} {e : Env} {R : Room} {s : State} {m : MethodId} {args : Array Value} {below : List Frame} {meth : Method} {c : Code} {D : va_G} {cA : FieldType → ClassId} {ad : Nat → Nat} {pc : Nat} {H : Heap} {locs : List Loc} {cells slots : Nat} {Q : State → Prop} {lsA : Array Slot}
theorem W_callL {A B : Nat → Prop} {mc ms n0 : Nat} {r : Option AV} {sh1 : List Kd} {σ1 : Sto} {arr : Array Value} {st0 rest : List Value} (hr : va_Run p l e R s m args below meth c H locs cells slots mc ms (F0 m pc lsA st0) rest (aQ D cA A ad n0 r sh1 σ1 arr) A) (hS : va_S B s.heap H locs) (hAB : ∀ q, A q → B q)
    (kk : ∀ (ad' : Nat → Nat) (H1 : Heap) (locs1 : List Loc), Ag n0 ad ad' → va_P D vwCl (wl ad' cA sh1 σ1) H1 → H.size ≤ H1.size → (∀ q : Nat, q < H.size → ¬ A q → H1[q]? = H[q]?) → va_S B s.heap H1 locs1 → sOK sh1 σ1 → (∀ v, r = some v → vOK sh1.length v) → W p l e R s m args below meth c H1 locs1 (cells + mc) (slots + ms) Q (F0 m (pc + 3) lsA ((r.map (cV ad')).toList ++ rest))) : W p l e R s m args below meth c H locs cells slots Q (F0 m pc lsA st0) := by
  intro T hT X
  obtain ⟨v, st₀, t, T', L, h0, X', hL, e1, e2, ⟨ad', a1, a2, a3, a4, ⟨hz, hk⟩, a6, a7, a8, a9⟩, stp⟩ := hr T hT X
  cases a2
  rw [h0] at hz hk
  obtain ⟨t2, b1, b2⟩ := kk ad' T'.heap (locs ++ L) a1 (by rw [e1]; exact a3) (by rw [e1]; exact hz) (fun q h1 h2 => by rw [e1]; exact hk q h1 h2) ⟨Nat.le_trans hS.1 (by rw [e1]; exact hz), fun q h1 h2 => by rw [e1, hk q (Nat.lt_of_lt_of_le h1 hS.1) (fun z => h2 (hAB q z))]; exact hS.2.1 q h1 h2, fun q hq => by
    rcases List.mem_append.mp hq with h | h
    · exact hS.2.2 q h
    · exact hAB _ (hL q h)⟩ a6 a9 T' rfl X'
  exact ⟨t2, stp t2 b1, b2⟩
/-- a call that the law makes on one of its two worlds -/
theorem lw_call {y : MEnt} {as : List AV} {d idx nL : Nat} {own : String} {cc : ByteArray} {rest : List Value} {sh : List Kd} {σ : Sto} {Qx : Option AV → List Kd → Sto → Prop}
    (hx : p.tables.exec = Jvm.exec) (hb : c.code = cc) (hml : c.maxLocals = nL) (hown : s.vm.findClass own = some m.cls) (hts : ∀ w ∈ gwT, w.before args s = true)
    (hk : Cond.methodLink own idx (eY y) ∈ gwT ∧ Cond.instanceMethod (eY y) ∈ gwT ∧ Cond.selects (eY y).cls (eY y) (eY y) ∈ gwT ∧ Cond.initialized (eY y).cls ∈ gwT ∧ Val y) (hdec : decode cc pc = .ok (.invokevirtual idx, 3))
    (hEx : Ex d y 0 (entL (eL y) (.inr (.inr (some 0)) :: as)) [] sh σ Qx) (hsz : lsA.size = nL) (hc0 : okC sh 0 (eC y) = true) (hcy : eC y < 13)
    (hR1 : d + 5 ≤ R.frames) (hR2 : 50 * (d + 1) + 300 ≤ R.locals) (hn : as.length = eN y) (hlen : (entA (.inr (.inr (some 0)) :: as)).length ≤ eL y) (has : ∀ v ∈ as, vOK sh.length v)
    (hK : va_K D vwCl (axtys cA) s) (hX : Xt ad (A0 s) s s.heap) (hinj : ∀ i j, i < sh.length → j < sh.length → ad i = ad j → i = j) (hge : ∀ i, i < sh.length → s.heap.size ≤ ad i)
    (hP : va_P D vwCl (wl ad cA sh σ) H) (hO : sOK sh σ) (h9 : sh.length ≤ 900) (h0 : 0 < sh.length) (hS : va_S (A0 s) s.heap H locs) (hce : cells ≤ R.cells) (hsl : slots ≤ R.slots) (hrm : (rest.map fun v => v.category).sum ≤ 8)
    (hQ : ∀ r sh' σ', Qx r sh' σ' → sh'.length = sh.length)
    (kk : ∀ (r : Option AV) (sh' : List Kd) (σ' : Sto) (H1 : Heap) (locs1 : List Loc), Qx r sh' σ' → va_P D vwCl (wl ad cA sh' σ') H1 → H.size ≤ H1.size → (∀ q : Nat, q < H.size → ¬ wA ad sh.length H q → H1[q]? = H[q]?) → va_S (A0 s) s.heap H1 locs1 → sOK sh' σ' → (∀ v, r = some v → vOK sh'.length v) → W p l e R s m args below meth c H1 locs1 cells slots Q (F0 m (pc + 3) lsA ((r.map (cV ad)).toList ++ rest))) :
    W p l e R s m args below meth c H locs cells slots Q (F0 m pc lsA ((as.map (cV ad)).reverse ++ .ref (ad 0) :: rest)) := by
  obtain ⟨f, r, sh', σ', hexec, hq⟩ := hEx
  obtain ⟨k1, k2, k3, k4, hV⟩ := hk
  have hsub : ∀ q, wA ad sh.length H q → A0 s q := fun q h => by
    rcases h with ⟨i, i1, rfl⟩ | h
    · exact hge i i1
    · exact Nat.le_trans hS.1 h
  have hM := met_of (l := l) (sound l f) hV hexec hlen (fun v hv => by
    rcases List.mem_cons.mp hv with rfl | h
    · exact fun k hk => by cases hk; exact Or.inl h0
    · exact has v h) hO h9 D cA (wA ad sh.length H) ad
  have hws : ∀ w ∈ (Cond.code (eY y) (eB y) (eL y) (eR y) :: gwT), ∀ (a' : Array Value) (U : State), s.WarmedH U.vm → w.before a' U = true := sx_ws hV.1 hts
  have hpar : ∀ sig, parseMethodDescriptor (eY y).desc = some sig → eN y = sig.parameters.length := par_of hV.2.2.2.1
  obtain ⟨fs, hk0⟩ := okC_in hc0
  have hcl : (eY y).cls = axR (eC y) := hV.2.2.2.2.2
  obtain ⟨q1, -⟩ := klsT hcy
  have hrecv : ∃ cell : Cell, H[ad 0]? = some cell ∧ cell.vm.isStatics = false ∧ s.vm.findClass (eY y).cls = some cell.cls := by
    rw [hcl]
    exact va_recv hK hP q1 (wl_at hk0)
  have hdD : va_D (wA ad sh.length H) (wl ad cA sh σ) := wl_D hinj (fun i hi => Or.inl ⟨i, hi, rfl⟩)
  have hPc : ∀ U : State, U.heap = H → s.WarmedH U.vm → aP D cA (wA ad sh.length H) ad (.inr (.inr (some 0)) :: as) sh σ (Value.ref (ad 0) :: as.map (cV ad)).toArray U := fun U hU hW =>
    ⟨rfl, by rw [hU]; exact hP, va_K.moved hW.alike hK, hdD, fun q hq => Or.inr (by rw [hU] at hq; exact hq), Xt_nar (Xt_kept hX hW (fun a h1 h2 => by rw [hU]; exact hS.2.1 a h1 h2)) hsub⟩
  have run := va_runV (l := l) (e := e) (below := below) (meth := meth) (locs := locs) (cells := cells) (slots := slots) (C := (eY y).cls) (b := ad 0) (As := as.map (cV ad)) (rest := rest) (g := F0 m pc lsA ((as.map (cV ad)).reverse ++ .ref (ad 0) :: rest)) (Ts := gwT) ⟨hx, hb, hml, hown, hts⟩ hM ⟨⟨rfl, rfl, by show d + 4 + 1 ≤ R.frames; omega, Nat.le_trans (rm_loc hV.2.2.2.2.1) hR2, hws, List.mem_cons_self, hts _ hV.1, hts _ k4, hV.2.2.1, hpar, hts _ k1⟩, hts _ k2, hts _ k3⟩ ⟨aP_blind, hrecv, hPc⟩ rfl (by simp [hn]) hsz rfl (lv_room hrm) hdec ⟨hce, hsl⟩
  refine W_callL run hS hsub (fun ad' H1 locs1 a1 a2 a3 a4 a5 a6 a7 => ?_)
  have hl' := hQ r sh' σ' hq
  have e1 : wl ad' cA sh' σ' = wl ad cA sh' σ' := wl_ag (by rw [hl']; exact a1) a6
  have e2 : r.map (cV ad') = r.map (cV ad) := by
    cases r with
    | none => rfl
    | some v => exact congrArg some (cV_ag (by rw [hl']; exact a1) (a7 v rfl))
  rw [e1] at a2
  rw [e2]
  exact kk r sh' σ' H1 locs1 hq a2 a3 a4 a5 a6 a7
end
