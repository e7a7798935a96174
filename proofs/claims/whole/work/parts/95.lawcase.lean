def lw_P (b : Addr) (xs : List Int32) (args : Array Value) (s : State) : Prop := args = #[.ref b] ∧ s.IntsAt b xs ∧ xs.length ≤ 3072 ∧ (Jvm.Cond.and given_1 narrow_1).before args s = true
def lw_Q (_ : Array Value) (s : State) (o : Outcome) (t : State) : Prop := o = .returned (some (.int 1)) ∧ Framed s o t [] 601024 7293034
def lw_Z (below : List Frame) (a : Array Value) (s : State) : State → Prop := fun t => ∃ o, t.status = .running ∧ Ended t below o ∧ lw_Q a s o t
theorem lw_ret {p : Program} {l : Launch} {e : Env} {s : State} {m : MethodId} {below : List Frame} {meth : Method} {c : Code} {b : Nat} (hx : p.tables.exec = Jvm.exec) (hb : c.code = code) (hr : meth.sig.returnType = ret) (hlocks : meth.locks = false) {pc : Nat} {H : Heap} {ls : Array Slot} (hdg : decode code pc = .ok (.ireturn, 1)) : W p l e room_1 s m #[Value.ref b] below meth c H [] 601024 7293034 (lw_Z below #[Value.ref b] s) (F0 m pc ls [.int 1]) := by
  intro T hT X
  obtain ⟨fs, hret, hrun, hended, hW, hframe⟩ := X.leave (v := some (.int 1)) (hlocks := hlocks) (fun h => by rw [hr] at h; cases h)
  have hmeth' : T.vm.method? m = some meth := X.method'
  refine ⟨T.setFrames fs, ?_, .returned (some (.int 1)), hrun, hended, rfl, ⟨_, rfl⟩, hW, hframe⟩
  jvm_step X.here [X.here.top, hx, hb, hdg, hmeth', hr, ret, narrow_b1]
  (try refine ⟨rfl, ?_⟩); (try refine ⟨rfl, ?_⟩)
  first | (intro acts; rw [hret _ acts rfl rfl rfl]) | rw [hret _ _ rfl rfl rfl]
  exact Steps.refl _
def lw_At (p : Program) (s : State) (m : MethodId) (meth : Method) (c : Code) (b L : Nat) (xs : Nat → Int32) : Prop :=
  p.tables.exec = Jvm.exec ∧ c.code = code ∧ meth.sig.returnType = ret ∧ c.maxLocals = 7 ∧ s.vm.findClass RL = some m.cls ∧ (∀ w ∈ lw_tbl, w.before #[Value.ref b] s = true) ∧ va_X b L xs s s.heap ∧ b < s.heap.size ∧ meth.locks = false ∧ (Jvm.Cond.and given_1 narrow_1).before #[Value.ref b] s = true
def rowA (p0 k : Nat) : Prop := ∀ j, j < k → decode code (p0 + 6 * j) = .ok (.aload_n 0, 1) ∧ decode code (p0 + 6 * j + 1) = .ok (.iload 4, 2) ∧ decode code (p0 + 6 * j + 3) = .ok (.iconst ((j : Int) + 1), 1) ∧ decode code (p0 + 6 * j + 4) = .ok (.iadd, 1) ∧ decode code (p0 + 6 * j + 5) = .ok (.iaload, 1)
def rowC (p0 k iC iR : Nat) (off : Int) : Prop := decode code p0 = .ok (.aload_n 1, 1) ∧ rowA (p0 + 1) k ∧ decode code (p0 + 1 + 6 * k) = .ok (.invokevirtual iC, 3) ∧ decode code (p0 + 4 + 6 * k) = .ok (.aload_n 2, 1) ∧ rowA (p0 + 5 + 6 * k) k ∧ decode code (p0 + 5 + 12 * k) = .ok (.invokevirtual iR, 3) ∧ decode code (p0 + 8 + 12 * k) = .ok (.if_icmp .eq off, 3) ∧ ((p0 + 8 + 12 * k : Nat) : Int) + off = 1507
def ldX (xs : Nat → Int32) (i k : Nat) : List AV := (List.range k).map fun j => .inl (xs (i + (j + 1))).toInt
theorem ld_ic : ∀ j : Nat, j < 5 → Int32.ofInt ((j : Int) + 1) = nI (j + 1) := by decide
theorem F0_pc {m : MethodId} {a b : Nat} {ls : Array Slot} {st : List Value} (h : a = b) : F0 m a ls st = F0 m b ls st := by rw [h]
theorem shC_len : shC.length = 60 := rfl
theorem shR_len (t : Nat) : (shR t).length = 28 := rfl
theorem ldX_ok {xs : Nat → Int32} {i k n : Nat} : ∀ v ∈ ldX xs i k, vOK n v := by
  intro v hv
  obtain ⟨j, -, rfl⟩ := List.mem_map.mp hv
  exact ⟨by have := Int32.le_toInt (xs (i + (j + 1))); exact this, by have := Int32.toInt_lt (xs (i + (j + 1))); show (xs (i + (j + 1))).toInt ≤ 2147483647; omega⟩
section
variable {p : Program} {l : Launch} {e : Env} {s : State} {m : MethodId} {below : List Frame} {meth : Method} {c : Code} {D : va_G} {cA : FieldType → ClassId} {adC adR : Nat → Nat} {q3 b L : Nat} {cL : ClassId} {xs : Nat → Int32} {H : Heap} {locs : List Loc} {cells slots : Nat} {Q : State → Prop} {ls : Array Slot} {M M' : Sto} {Ls Ls' : List (List Cl)}
def LF (p : Program) (s : State) (m : MethodId) (meth : Method) (c : Code) (b L : Nat) (xs : Nat → Int32) (D : va_G) (cA : FieldType → ClassId) (cL : ClassId) (adC adR : Nat → Nat) (q3 : Nat) : Prop :=
  lw_At p s m meth c b L xs ∧ L ≤ 3072 ∧ va_K D vwCl (axtys cA) s ∧ va_K D vwCl [(cL, .long)] s ∧ (Xt adC (A0 s) s s.heap ∧ Xt adR (A0 s) s s.heap) ∧
  ((∀ i j, i < 60 → j < 60 → adC i = adC j → i = j) ∧ (∀ i j, i < 28 → j < 28 → adR i = adR j → i = j)) ∧ ((∀ i, i < 60 → s.heap.size ≤ adC i) ∧ (∀ i, i < 28 → s.heap.size ≤ adR i) ∧ s.heap.size ≤ q3) ∧ (∀ i j, i < 60 → j < 28 → adC i ≠ adR j) ∧ (∀ i, i < 60 → adC i ≠ q3) ∧ (∀ j, j < 28 → adR j ≠ q3)
def WI (s : State) (D : va_G) (cA : FieldType → ClassId) (cL : ClassId) (adC adR : Nat → Nat) (q3 : Nat) (H : Heap) (locs : List Loc) (M : Sto) (Ls : List (List Cl)) : Prop :=
  ∃ (t : Nat) (σC σR : Sto) (v : Nat → Int64), va_P D vwCl (wl adC cA shC σC) H ∧ va_P D vwCl (wl adR cA (shR t) σR) H ∧ va_P D vwCl [(q3, .inl (cL, 1, .inr (.inl v)))] H ∧ sOK shC σC ∧ sOK (shR t) σR ∧ RepC σC M Ls ∧ RepR t σR M Ls ∧ va_S (A0 s) s.heap H locs
def lcs (b : Nat) (adC adR : Nat → Nat) (q3 i : Nat) : List (Nat × Value) := [(4, .int (nI i)), (3, .ref q3), (2, .ref (adR 0)), (1, .ref (adC 0)), (0, .ref b)]
theorem lw_args {rest : List Value} {ad : Nat → Nat} {i p0 : Nat} (A0' : lw_At p s m meth c b L xs) (hL : L ≤ 3072) (hl : lv_has ls 7 (lcs b adC adR q3 i)) (hS : va_S (A0 s) s.heap H locs) (hi : i + 6 ≤ L) : ∀ {k : Nat}, k ≤ 5 → rowA p0 k → W p l e room_1 s m #[Value.ref b] below meth c H locs cells slots Q (F0 m (p0 + 6 * k) ls (((ldX xs i k).map (cV ad)).reverse ++ rest)) → W p l e room_1 s m #[Value.ref b] below meth c H locs cells slots Q (F0 m p0 ls rest) := by
  intro k
  induction k with
  | zero => intro _ _ kk; exact kk
  | succ k ih =>
    intro hk hr kk
    refine ih (by omega) (fun j hj => hr j (by omega)) ?_
    obtain ⟨r1, r2, r3, r4, r5⟩ := hr k (by omega)
    obtain ⟨hx, hb, -, -, -, -, hX, hbl, -⟩ := A0'
    refine lv_aload_n hx hb r1 rfl (lv_at hl 4 rfl) ?_
    refine lv_iload hx hb r2 (lv_at hl 0 rfl) ?_
    refine lv_iconst hx hb r3 (ld_ic k (by omega)) ?_
    refine lv_iadd hx hb r4 ?_
    rw [nI_add]
    refine va_sld hx hb hX hbl (fun h => absurd h (Nat.not_le.mpr hbl)) hS (vp_in_nI (by omega) (by omega)) r5 ?_
    rw [nI_clamp (by omega)]
    have e1 : ((ldX xs i (k + 1)).map (cV ad)).reverse ++ rest = .int (xs (i + (k + 1))) :: (((ldX xs i k).map (cV ad)).reverse ++ rest) := by
      unfold ldX
      rw [List.range_succ]
      simp [cV]
    rw [e1] at kk
    exact kk
theorem lw_case {yC yR : MEnt} {p0 k iC iR : Nat} {off a : Int} {i : Nat} (F : LF p s m meth c b L xs D cA cL adC adR q3) (hk : k ≤ 5) (hr : rowC p0 k iC iR off) (kC : lwK iC yC) (kR : lwK iR yR) (nC : eC yC = 11 ∧ eN yC = k ∧ k + 1 ≤ eL yC) (nR : eC yR = 12 ∧ eN yR = k ∧ k + 1 ≤ eL yR)
    (HC : ∀ σ, sOK shC σ → RepC σ M Ls → Ex 60 yC 0 (entL (eL yC) (.inr (.inr (some 0)) :: ldX xs i k)) [] shC σ (fun r sh' σ' => r = some (.inl a) ∧ sh' = shC ∧ RepC σ' M' Ls'))
    (HR : ∀ t σ, sOK (shR t) σ → RepR t σ M Ls → Ex 60 yR 0 (entL (eL yR) (.inr (.inr (some 0)) :: ldX xs i k)) [] (shR t) σ (fun r sh' σ' => r = some (.inl a) ∧ ∃ t', sh' = shR t' ∧ RepR t' σ' M' Ls'))
    (hl : lv_has ls 7 (lcs b adC adR q3 i)) (hi : i + 6 ≤ L) (w : WI s D cA cL adC adR q3 H locs M Ls) (hce : cells ≤ room_1.cells) (hsl : slots ≤ room_1.slots)
    (kk : ∀ H1 locs1, WI s D cA cL adC adR q3 H1 locs1 M' Ls' → W p l e room_1 s m #[Value.ref b] below meth c H1 locs1 cells slots Q (F0 m 1507 ls [])) : W p l e room_1 s m #[Value.ref b] below meth c H locs cells slots Q (F0 m p0 ls []) := by
  obtain ⟨F0', hL, hK, -, ⟨hXC, hXR⟩, ⟨iCj, iRj⟩, ⟨gC, gR, g3⟩, apA, ap3, ap4⟩ := F
  obtain ⟨r1, r2, r3, r4, r5, r6, r7, r8⟩ := hr
  obtain ⟨t, σC, σR, v, pC, pR, p3, oC, oR, rC, rR, hS⟩ := w
  have F1 := F0'
  obtain ⟨hx, hb, -, hml, hown, hts, hX, hbl, -, -⟩ := F0'
  have hts' : ∀ w ∈ gwT, w.before #[Value.ref b] s = true := fun w hw => hts w (List.mem_filter.mp hw).1
  have hla : ∀ (n : Nat) (v0 : AV), (ldX xs i n).length = n := fun n _ => by simp [ldX]
  have hent : (entA (.inr (.inr (some 0)) :: ldX xs i k)).length = k + 1 := by
    have : ∀ (n : Nat) (f : Nat → Int) (l : List Nat), (entA (l.map fun j => (Sum.inl (f j) : AV))).length = l.length := by
      intro n f l
      induction l with
      | nil => rfl
      | cons x l ih => simpa [entA] using ih
    show (entA (ldX xs i k)).length + 1 = k + 1
    rw [show ldX xs i k = (List.range k).map fun j => .inl (xs (i + (j + 1))).toInt from rfl, this k (fun j => (xs (i + (j + 1))).toInt)]
    simp
  refine lv_aload_n hx hb r1 rfl (lv_at hl 3 rfl) ?_
  refine lw_args (ad := adC) F1 hL hl hS hi hk r2 ?_
  refine lw_call (sh := shC) (d := 60) hx hb hml hown hts' kC r3 (HC σC oC rC) hl.1 (by rw [nC.1]; rfl) (by rw [nC.1]; decide) (by decide) (by decide) (by rw [hla k (.inl 0), nC.2.1]) (by rw [hent]; exact nC.2.2) ldX_ok hK hXC (by rw [shC_len]; exact iCj) (by rw [shC_len]; exact gC) pC oC (by rw [shC_len]; decide) (by rw [shC_len]; decide) hS hce hsl (Nat.le_of_ble_eq_true rfl) (fun r sh' σ' h => by rw [h.2.1]) ?_
  rintro r sh' σC1 H1 locs1 ⟨rfl, rfl, rC1⟩ pC1 hz1 hk1 hS1 oC1 -
  have pR1 : va_P D vwCl (wl adR cA (shR t) σR) H1 := va_P_out pR (fun k q hq hlt => hk1 q.1 hlt (fun h => by
    obtain ⟨q1, q2⟩ := wl_fst hq
    rcases h with ⟨i1, h1, h2⟩ | h
    · exact apA i1 k h1 q1 (by rw [← h2, q2])
    · omega))
  have p31 : va_P D vwCl [(q3, .inl (cL, 1, .inr (.inl v)))] H1 := va_P_out p3 (fun k q hq hlt => hk1 q.1 hlt (fun h => by
    have hq' := List.mem_of_getElem? hq
    rw [List.mem_singleton] at hq'
    subst hq'
    rcases h with ⟨i1, h1, h2⟩ | h
    · exact ap3 i1 h1 h2.symm
    · omega))
  refine W.eq (g2 := F0 m (p0 + 4 + 6 * k) ls [.int (Int32.ofInt a)]) (F0_pc (by omega)) ?_
  refine lv_aload_n hx hb r4 rfl (lv_at hl 2 rfl) ?_
  refine W.eq (g2 := F0 m (p0 + 5 + 6 * k) ls [.ref (adR 0), .int (Int32.ofInt a)]) (F0_pc (by omega)) ?_
  refine lw_args (ad := adR) F1 hL hl hS1 hi hk r5 ?_
  refine W.eq (g2 := F0 m (p0 + 5 + 12 * k) ls (((ldX xs i k).map (cV adR)).reverse ++ [.ref (adR 0), .int (Int32.ofInt a)])) (F0_pc (by omega)) ?_
  refine lw_call (sh := shR t) (d := 60) hx hb hml hown hts' kR r6 (HR t σR oR rR) hl.1 (by rw [nR.1]; rfl) (by rw [nR.1]; decide) (by decide) (by decide) (by rw [hla k (.inl 0), nR.2.1]) (by rw [hent]; exact nR.2.2) ldX_ok hK hXR (by rw [shR_len]; exact iRj) (by rw [shR_len]; exact gR) pR1 oR (by rw [shR_len]; decide) (by rw [shR_len]; decide) hS1 hce hsl (Nat.le_of_ble_eq_true rfl) (fun r sh' σ' h => by obtain ⟨-, t', rfl, -⟩ := h; rfl) ?_
  rintro r sh' σR1 H2 locs2 ⟨rfl, t', rfl, rR1⟩ pR2 hz2 hk2 hS2 oR2 -
  have pC2 : va_P D vwCl (wl adC cA shC σC1) H2 := va_P_out pC1 (fun k q hq hlt => hk2 q.1 hlt (fun h => by
    obtain ⟨q1, q2⟩ := wl_fst hq
    rcases h with ⟨i1, h1, h2⟩ | h
    · exact apA k i1 q1 h1 (by rw [← h2, q2])
    · omega))
  have p32 : va_P D vwCl [(q3, .inl (cL, 1, .inr (.inl v)))] H2 := va_P_out p31 (fun k q hq hlt => hk2 q.1 hlt (fun h => by
    have hq' := List.mem_of_getElem? hq
    rw [List.mem_singleton] at hq'
    subst hq'
    rcases h with ⟨i1, h1, h2⟩ | h
    · exact ap4 i1 h1 h2.symm
    · omega))
  refine W.eq (g2 := F0 m (p0 + 8 + 12 * k) ls [.int (Int32.ofInt a), .int (Int32.ofInt a)]) (F0_pc (by omega)) ?_
  exact lv_icmp_eq (tgt := 1507) hx hb r7 r8 (fun _ => kk H2 locs2 ⟨t', σC1, σR1, v, pC2, pR2, p32, oC1, oR2, rC1, rR1, hS2⟩) (fun h => absurd rfl h)
end
