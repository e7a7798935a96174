-- the abstract machine's run of a method is a run of the claim's machine
def rm (d ca sa : Nat) : Room := { frames := d + 4, cells := ca, slots := sa, locals := 50 * d + 300 }
def aQ (D : va_G) (cA : FieldType → ClassId) (A : Nat → Prop) (ad : Nat → Nat) (n0 : Nat) (r : Option AV) (sh' : List Kd) (σ' : Sto) : Array Value → State → Outcome → State → Prop := fun _ st o t =>
  ∃ ad' : Nat → Nat, Ag n0 ad ad' ∧ o = .returned (r.map (cV ad')) ∧ va_P D vwCl (wl ad' cA sh' σ') t.heap ∧ va_D A (wl ad' cA sh' σ') ∧ va_F A st t ∧ sOK sh' σ' ∧ sh'.length ≤ 900 ∧ n0 ≤ sh'.length ∧ ∀ v, r = some v → vOK sh'.length v
def aP (D : va_G) (cA : FieldType → ClassId) (A : Nat → Prop) (ad : Nat → Nat) (as : List AV) (sh : List Kd) (σ : Sto) : Array Value → State → Prop :=
  va_Pc (as.map (cV ad)) (fun U => va_P D vwCl (wl ad cA sh σ) U.heap ∧ va_K D vwCl (axtys cA) U ∧ va_D A (wl ad cA sh σ) ∧ (∀ q, U.heap.size ≤ q → A q) ∧ Xt ad A U U.heap)
theorem Xt_ag {n : Nat} {ad ad' : Nat → Nat} {A : Nat → Prop} {U : State} {H : Heap} (h : Ag n ad ad') (hX : Xt ad A U H) : Xt ad' A U H := by
  obtain ⟨h1, h2, ⟨adV, h3⟩, h4, h5, h6, h7⟩ := hX
  refine ⟨fun k a b => ?_, fun c q hq => ?_, ⟨adV, ?_⟩, h4, h5, h6, h7⟩
  · rw [h k (Or.inr a)]; exact h1 k a b
  · have := axS_ok c q hq
    simp only [okSb, Bool.and_eq_true, decide_eq_true_eq] at this
    rw [h _ (Or.inr (by omega))]; exact h2 c q hq
  · rw [show (fun i => ad' (1010 + i)) = fun i => ad (1010 + i) from by funext i; exact h _ (Or.inr (by omega))]; exact h3
theorem Xt_kept {ad : Nat → Nat} {A : Nat → Prop} {U V : State} {H H1 : Heap} (hX : Xt ad A U H) (hW : U.WarmedH V.vm) (hq : ∀ a : Nat, a < H.size → ¬ A a → H1[a]? = H[a]?) : Xt ad A V H1 := by
  obtain ⟨h1, h2, ⟨adV, h3⟩, h4, h5, h6, h7⟩ := hX
  have hal := hW.alike
  refine ⟨fun k a b => ⟨((h1 k a b).1.moved hal).kept hq, ((h1 k a b).2.moved hal).kept hq⟩, fun c q hq => (h2 c q hq).warm hW, ⟨adV, (h3.moved hal).kept hq⟩, fun w hw hn => ?_, h5.moved hal, (h6.moved hal).kept hq, (h7.moved hal).kept hq⟩
  have := h4 w hw hn
  cases w <;> first | (cases hn; done) | exact va_Nw.warmF hW this | exact va_Nw.warmM hW this
theorem Xt_same {ad : Nat → Nat} {A : Nat → Prop} {U V : State} {H : Heap} (hX : Xt ad A U H) (hv : V.vm = U.vm) : Xt ad A V H := by
  obtain ⟨h1, h2, ⟨adV, h3⟩, h4, h5, h6, h7⟩ := hX
  have hal : U.vm.Alike V.vm := by rw [hv]; exact Vm.Alike.refl _
  refine ⟨fun k a b => ⟨(h1 k a b).1.moved hal, (h1 k a b).2.moved hal⟩, fun c q hq => (h2 c q hq).same hv, ⟨adV, h3.moved hal⟩, fun w hw hn => ?_, h5.moved hal, h6.moved hal, h7.moved hal⟩
  have := h4 w hw hn
  cases w <;> first | (cases hn; done) | exact va_Nw.same rfl hv.symm this
theorem aP_blind {D : va_G} {cA : FieldType → ClassId} {A : Nat → Prop} {ad : Nat → Nat} {as : List AV} {sh : List Kd} {σ : Sto} : FrameBlind (aP D cA A ad as sh σ) := by
  intro a U g mk h
  obtain ⟨h0, h1, h2, h3, h4, h5⟩ := h
  exact ⟨h0, h1, va_K.moved (u := U) (U := U.calling g mk a) (Vm.Alike.refl U.vm) h2, h3, h4, Xt_same (U := U) (V := U.calling g mk a) h5 rfl⟩
section
variable {p : Program} {l : Launch} {e : Env} {R : Room} {s : State} {m : MethodId} {args : Array Value} {below : List Frame} {meth : Method} {c : Code} {me : MEnt} {D : va_G} {cA : FieldType → ClassId} {A : Nat → Prop} {ad : Nat → Nat} {pc : Nat} {ls : Lcs} {st : List AV} {sh : List Kd} {σ : Sto} {H : Heap} {locs : List Loc} {cells slots : Nat} {Q : State → Prop} {lsA : Array Slot}
theorem W_mono {Q' : State → Prop} {g : JFrame} (h : W p l e R s m args below meth c H locs cells slots Q g) (hq : ∀ t, Q t → Q' t) : W p l e R s m args below meth c H locs cells slots Q' g := by
  intro T hT X
  obtain ⟨t, h1, h2⟩ := h T hT X
  exact ⟨t, h1, hq t h2⟩
theorem Bd.ag {n : Nat} {ad' : Nat → Nat} (h : Ag n ad ad') (B : Bd p R s m args meth c me D cA A ad) : Bd p R s m args meth c me D cA A ad' := by
  obtain ⟨hx, hb, hr, hml, hown, hts, hlocks, hin, hK, hA, hX, hV, hfr, hlo⟩ := B
  exact ⟨hx, hb, hr, hml, hown, hts, hlocks, hin, hK, hA, Xt_ag h hX, hV, hfr, hlo⟩
/-- behind a call -/
theorem W_call {mc ms n0 : Nat} {r : Option AV} {sh1 : List Kd} {σ1 : Sto} {arr : Array Value} {st0 rest : List Value} (hr : va_Run p l e R s m args below meth c H locs cells slots mc ms (F0 m pc lsA st0) rest (aQ D cA A ad n0 r sh1 σ1 arr) A) (hS : va_S A s.heap H locs)
    (kk : ∀ (ad' : Nat → Nat) (H1 : Heap) (locs1 : List Loc), Ag n0 ad ad' → va_P D vwCl (wl ad' cA sh1 σ1) H1 → va_D A (wl ad' cA sh1 σ1) → va_S A s.heap H1 locs1 → sOK sh1 σ1 → sh1.length ≤ 900 → n0 ≤ sh1.length → (∀ v, r = some v → vOK sh1.length v) → W p l e R s m args below meth c H1 locs1 (cells + mc) (slots + ms) Q (F0 m (pc + 3) lsA ((r.map (cV ad')).toList ++ rest))) : W p l e R s m args below meth c H locs cells slots Q (F0 m pc lsA st0) := by
  intro T hT X
  obtain ⟨v, st₀, t, T', L, h0, X', hL, e1, e2, ⟨ad', a1, a2, a3, a4, ⟨hz, hk⟩, a6, a7, a8, a9⟩, stp⟩ := hr T hT X
  cases a2
  rw [h0] at hz hk
  obtain ⟨t2, b1, b2⟩ := kk ad' T'.heap (locs ++ L) a1 (by rw [e1]; exact a3) a4 ⟨Nat.le_trans hS.1 (by rw [e1]; exact hz), fun q h1 h2 => by rw [e1, hk q (Nat.lt_of_lt_of_le h1 hS.1) h2]; exact hS.2.1 q h1 h2, fun q hq => by
    rcases List.mem_append.mp hq with h | h
    · exact hS.2.2 q h
    · exact hL q h⟩ a6 a7 a8 a9 T' rfl X'
  exact ⟨t2, stp t2 b1, b2⟩
end
/-- what the induction says of a run of f steps -/
def Snd (l : Launch) (f : Nat) : Prop := ∀ (d : Nat) (me : MEnt) (pc : Nat) (ls : Lcs) (st : List AV) (sh : List Kd) (σ : Sto) (r : Option AV) (sh' : List Kd) (σ' : Sto) (c1 s1 : Nat), exec f d me pc ls st sh σ = some (r, sh', σ', c1, s1) →
  ∀ (p : Program) (e : Env) (s : State) (m : MethodId) (args : Array Value) (below : List Frame) (meth : Method) (c : Code) (D : va_G) (cA : FieldType → ClassId) (A : Nat → Prop) (ad : Nat → Nat) (X Y : Nat), Bd p (rm d X Y) s m args meth c me D cA A ad →
  ∀ (lsA : Array Slot) (H : Heap) (locs : List Loc) (cells slots : Nat), Fr ad me lsA ls st sh.length → Wo s D cA ad A H locs sh σ → cells + c1 ≤ X → slots + s1 ≤ Y →
    W p l e (rm d X Y) s m args below meth c H locs cells slots (MQ below (aQ D cA A ad sh.length r sh' σ') args s (cells + c1) (slots + s1) A) (F0 m pc lsA (st.map (cV ad)))
/-- a contract out of a run -/
theorem met_of {l : Launch} {f d : Nat} {me : MEnt} {as : List AV} {sh : List Kd} {σ : Sto} {r : Option AV} {sh' : List Kd} {σ' : Sto} {c1 s1 : Nat} (hS : Snd l f) (hV : Val me) (hex : exec f d me 0 (entL (eL me) as) [] sh σ = some (r, sh', σ', c1, s1)) (hl : (entA as).length ≤ eL me) (has : ∀ v ∈ as, vOK sh.length v) (hsh : sOK sh σ) (hlen : sh.length ≤ 900) (D : va_G) (cA : FieldType → ClassId) (A : Nat → Prop) (ad : Nat → Nat) :
    Met l (eY me) (Cond.code (eY me) (eB me) (eL me) (eR me) :: gwT) (rm d c1 s1) (aP D cA A ad as sh σ) (aQ D cA A ad sh.length r sh' σ') c1 s1 A := by
  refine MetFree.of_bodySF (code := eB me) (maxLocals := eL me) (ret := eR me) hV.2.1 ?_ ?_
  · intro args s m h hn
    obtain ⟨meth, c, h1, h2, h3, h4, h5, h6, -, -⟩ := Cond.code_spec hn (atoms_spec (ws := Cond.code (eY me) (eB me) (eL me) (eR me) :: gwT) h _ List.mem_cons_self)
    exact ⟨meth, c, h1, h2, h3, h4, h5, h6⟩
  · intro p e s m args below meth c s₁ B hml hP _
    obtain ⟨rfl, hP1, hK, hD, hA, hX⟩ := hP
    have hts0 := atoms_spec (ws := Cond.code (eY me) (eB me) (eL me) (eR me) :: gwT) B.pre
    have hown : s.vm.findClass (axR (eC me)) = some m.cls := by rw [← hV.2.2.2.2.2]; exact findClass_of_methodNamed B.named
    have Bd0 : Bd p (rm d c1 s1) s m (as.map (cV ad)).toArray meth c me D cA A ad := ⟨B.exec, B.bytes, B.returns, hml, hown, fun w hw => hts0 w (List.mem_cons_of_mem _ hw), B.notSynchronized, (name_of_methodNamed B.named B.method).1, hK, hA, hX, hV, by show 4 ≤ d + 4; omega, by show 300 ≤ 50 * d + 300; omega⟩
    have hh0 : s₁.heap = s.heap := by rw [B.state]; rfl
    have K := hS d me 0 _ [] sh σ r sh' σ' c1 s1 hex p e s m (as.map (cV ad)).toArray below meth c D cA A ad c1 s1 Bd0 _ s.heap [] 0 0 ⟨ent_has hl, entL_len hl, entL_ok has, fun v hv => by cases hv⟩ ⟨hP1, hD, va_S.rf, hsh, hlen⟩ (by omega) (by omega)
    simp only [Nat.zero_add, List.map_nil] at K
    have K2 : W p l e (headSpec (Cond.code (eY me) (eB me) (eL me) (eR me) :: gwT) (rm d c1 s1)).room s m (as.map (cV ad)).toArray below meth c s.heap [] 0 0 (MQ below (aQ D cA A ad sh.length r sh' σ') (as.map (cV ad)).toArray s c1 s1 A) (entryFrame m (as.map (cV ad)).toArray (eL me)) := by
      rw [lg_entry_eq]
      exact K
    obtain ⟨t, a1, o, b1, b2, b3⟩ := K2 s₁ hh0 (Stand.of_body B)
    exact ⟨t, o, a1, b1, b2, ⟨b3.1, b3.2⟩⟩
