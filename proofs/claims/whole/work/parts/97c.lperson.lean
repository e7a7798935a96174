section
variable {p : Program} {l : Launch} {e : Env} {R : Room} {s : State} {m : MethodId} {args : Array Value} {below : List Frame} {meth : Method} {c : Code} {D : va_G} {cA : FieldType → ClassId} {ad : Nat → Nat} {pc : Nat} {H : Heap} {locs : List Loc} {cells slots : Nat} {Q : State → Prop} {lsA : Array Slot}
theorem lw_callB {B : Nat → Prop} (hA : ∀ q, s.heap.size ≤ q → B q) {y : MEnt} {as : List AV} {d idx nL : Nat} {own : String} {cc : ByteArray} {rest : List Value} {sh : List Kd} {σ : Sto} {Qx : Option AV → List Kd → Sto → Prop}
    (hx : p.tables.exec = Jvm.exec) (hb : c.code = cc) (hml : c.maxLocals = nL) (hown : s.vm.findClass own = some m.cls) (hts : ∀ w ∈ gwT, w.before args s = true)
    (hk : Cond.methodLink own idx (eY y) ∈ gwT ∧ Cond.instanceMethod (eY y) ∈ gwT ∧ Cond.selects (eY y).cls (eY y) (eY y) ∈ gwT ∧ Cond.initialized (eY y).cls ∈ gwT ∧ Val y) (hdec : decode cc pc = .ok (.invokevirtual idx, 3))
    (hEx : Ex d y 0 (entL (eL y) (.inr (.inr (some 0)) :: as)) [] sh σ Qx) (hsz : lsA.size = nL) (hc0 : okC sh 0 (eC y) = true) (hcy : eC y < 13)
    (hR1 : d + 5 ≤ R.frames) (hR2 : 50 * (d + 1) + 300 ≤ R.locals) (hn : as.length = eN y) (hlen : (entA (.inr (.inr (some 0)) :: as)).length ≤ eL y) (has : ∀ v ∈ as, vOK sh.length v)
    (hK : va_K D vwCl (axtys cA) s) (hX : Xt ad B s s.heap) (hinj : ∀ i j, i < sh.length → j < sh.length → ad i = ad j → i = j) (hge : ∀ i, i < sh.length → B (ad i))
    (hP : va_P D vwCl (wl ad cA sh σ) H) (hO : sOK sh σ) (h9 : sh.length ≤ 900) (h0 : 0 < sh.length) (hS : va_S B s.heap H locs) (hce : cells ≤ R.cells) (hsl : slots ≤ R.slots) (hrm : (rest.map fun v => v.category).sum ≤ 8)
    (hQ : ∀ r sh' σ', Qx r sh' σ' → sh'.length = sh.length)
    (kk : ∀ (r : Option AV) (sh' : List Kd) (σ' : Sto) (H1 : Heap) (locs1 : List Loc), Qx r sh' σ' → va_P D vwCl (wl ad cA sh' σ') H1 → H.size ≤ H1.size → (∀ q : Nat, q < H.size → ¬ wA ad sh.length H q → H1[q]? = H[q]?) → va_S B s.heap H1 locs1 → sOK sh' σ' → (∀ v, r = some v → vOK sh'.length v) → W p l e R s m args below meth c H1 locs1 cells slots Q (F0 m (pc + 3) lsA ((r.map (cV ad)).toList ++ rest))) :
    W p l e R s m args below meth c H locs cells slots Q (F0 m pc lsA ((as.map (cV ad)).reverse ++ .ref (ad 0) :: rest)) := by
  obtain ⟨f, r, sh', σ', hexec, hq⟩ := hEx
  obtain ⟨k1, k2, k3, k4, hV⟩ := hk
  have hsub : ∀ q, wA ad sh.length H q → B q := fun q h => by
    rcases h with ⟨i, i1, rfl⟩ | h
    · exact hge i i1
    · exact hA q (Nat.le_trans hS.1 h)
  have hM := met_of (l := l) (sound l f) hV hexec hlen (fun v hv => by
    rcases List.mem_cons.mp hv with rfl | h
    · exact fun k hk => by cases hk; exact Or.inl h0
    · exact has v h) hO h9 D cA (wA ad sh.length H) ad
  have hws : ∀ w ∈ (Cond.code (eY y) (eB y) (eL y) (eR y) :: gwT), ∀ (a' : Array Value) (U : State), s.WarmedH U.vm → w.before a' U = true := sx_ws hV.1 hts
  have hpar : ∀ sig, parseMethodDescriptor (eY y).desc = some sig → eN y = sig.parameters.length := par_of hV.2.2.2.1
  obtain ⟨fs, hk0⟩ := okC_in hc0
  have hcl : (eY y).cls = axR (eC y) := hV.2.2.2.2.2
  obtain ⟨q1, -⟩ := klsT hcy
  have hrecv : ∃ cell : Cell, H[ad 0]? = some cell ∧ cell.vm.isStatics = false ∧ s.vm.findClass (eY y).cls = some cell.cls := by
    rw [hcl]
    exact va_recv hK hP q1 (wl_at hk0)
  have hdD : va_D (wA ad sh.length H) (wl ad cA sh σ) := wl_D hinj (fun i hi => Or.inl ⟨i, hi, rfl⟩)
  have hPc : ∀ U : State, U.heap = H → s.WarmedH U.vm → aP D cA (wA ad sh.length H) ad (.inr (.inr (some 0)) :: as) sh σ (Value.ref (ad 0) :: as.map (cV ad)).toArray U := fun U hU hW =>
    ⟨rfl, by rw [hU]; exact hP, va_K.moved hW.alike hK, hdD, fun q hq => Or.inr (by rw [hU] at hq; exact hq), Xt_nar (Xt_kept hX hW (fun a h1 h2 => by rw [hU]; exact hS.2.1 a h1 h2)) hsub⟩
  have run := va_runV (l := l) (e := e) (below := below) (meth := meth) (locs := locs) (cells := cells) (slots := slots) (C := (eY y).cls) (b := ad 0) (As := as.map (cV ad)) (rest := rest) (g := F0 m pc lsA ((as.map (cV ad)).reverse ++ .ref (ad 0) :: rest)) (Ts := gwT) ⟨hx, hb, hml, hown, hts⟩ hM ⟨⟨rfl, rfl, by show d + 4 + 1 ≤ R.frames; omega, Nat.le_trans (rm_loc hV.2.2.2.2.1) hR2, hws, List.mem_cons_self, hts _ hV.1, hts _ k4, hV.2.2.1, hpar, hts _ k1⟩, hts _ k2, hts _ k3⟩ ⟨aP_blind, hrecv, hPc⟩ rfl (by simp [hn]) hsz rfl (lv_room hrm) hdec ⟨hce, hsl⟩
  refine W_callL run hS hsub (fun ad' H1 locs1 a1 a2 a3 a4 a5 a6 a7 => ?_)
  have hl' := hQ r sh' σ' hq
  have e1 : wl ad' cA sh' σ' = wl ad cA sh' σ' := wl_ag (by rw [hl']; exact a1) a6
  have e2 : r.map (cV ad') = r.map (cV ad) := by
    cases r with
    | none => rfl
    | some v => exact congrArg some (cV_ag (by rw [hl']; exact a1) (a7 v rfl))
  rw [e1] at a2
  rw [e2]
  exact kk r sh' σ' H1 locs1 hq a2 a3 a4 a5 a6 a7
end
theorem kLX11_person : lwK 7 mX11_person := ⟨gw_5 (i := 147) rfl rfl, gw_5 (i := 148) rfl rfl, gw_5 (i := 149) rfl rfl, gw_1 (i := 1) rfl rfl, vmX11_person⟩
abbrev cwP : Cond := Cond.codeWith yL_person cL_person 5 (some .int) [(0, 10, 13, 13)]
theorem cw_gw : cwP ∈ gwT := gw_5 (i := 145) rfl rfl
theorem va_P_setL {D : va_G} {cl : List vw_C} {w : va_W} {x y : Nat × va_E} {H : Heap} (h : va_P D cl ((w ++ [x]).set w.length y) H) : va_P D cl w H ∧ va_P D cl [y] H := by
  have e : (w ++ [x]).set w.length y = w ++ [y] := by simp [List.set_append]
  rw [e] at h
  refine ⟨fun k q hk => h k q ?_, fun k q hk => h (w.length + k) q ?_⟩
  · rw [List.getElem?_append_left (List.getElem?_eq_some_iff.mp hk).1]; exact hk
  · rw [List.getElem?_append_right (by omega)]
    simpa using hk
abbrev rmPL : Room := { frames := 70, cells := 1, slots := 6, locals := 4000 }
def PL (D : va_G) (cA : FieldType → ClassId) (cL : ClassId) (A : Nat → Prop) (ad : Nat → Nat) (q3 sa : Nat) (p q : Int) (σ : Sto) (v : Nat → Int64) : Array Value → State → Prop := fun a U =>
  a = ([.ref (ad 0), .int (Int32.ofInt p), .int (Int32.ofInt q), .ref q3] : List Value).toArray ∧ va_P D vwCl (wl ad cA shC σ) U.heap ∧ va_P D vwCl [(q3, .inl (cL, 1, .inr (.inl v)))] U.heap ∧ (va_K D vwCl (axtys cA) U ∧ va_K D vwCl [(cL, .long)] U) ∧ (∀ i j, i < 60 → j < 60 → ad i = ad j → i = j) ∧ (∀ i, i < 60 → A (ad i)) ∧ A q3 ∧ (∀ i, i < 60 → ad i ≠ q3) ∧ (∀ q, U.heap.size ≤ q → A q) ∧ Xt ad A U U.heap ∧ Th A sa U U.heap
theorem PL_blind {D : va_G} {cA : FieldType → ClassId} {cL : ClassId} {A : Nat → Prop} {ad : Nat → Nat} {q3 sa : Nat} {p q : Int} {σ : Sto} {v : Nat → Int64} : FrameBlind (PL D cA cL A ad q3 sa p q σ v) := by
  intro a U g mk h
  obtain ⟨h0, h1, h2, ⟨h3, h4⟩, h5, h6, h7, h8, h9, h10, h11⟩ := h
  exact ⟨h0, h1, h2, ⟨va_K.moved (u := U) (U := U.calling g mk a) (Vm.Alike.refl U.vm) h3, va_K.moved (u := U) (U := U.calling g mk a) (Vm.Alike.refl U.vm) h4⟩, h5, h6, h7, h8, h9, Xt_same (U := U) (V := U.calling g mk a) h10 rfl, Th.same (U := U) (V := U.calling g mk a) h11 rfl⟩
abbrev QL (D : va_G) (cA : FieldType → ClassId) (cL : ClassId) (A : Nat → Prop) (ad : Nat → Nat) (q3 : Nat) (p q : Int) (σ M : Sto) : Array Value → State → Outcome → State → Prop :=
  va_Qi (fun (r : Int32) (v : Nat → Int64) => (gPerson M p q → r = 0 ∧ v 0 = (Int32.ofInt (aPerson M p q)).toInt64) ∧ (¬ gPerson M p q → r = 1)) (fun v t => va_P D vwCl (wl ad cA shC σ) t.heap ∧ va_P D vwCl [(q3, .inl (cL, 1, .inr (.inl v)))] t.heap) A
abbrev XL (A : Nat → Prop) : String → State → State → Prop := vx_X (fun _ : Unit => False) (fun _ _ _ => True) A
set_option maxHeartbeats 4000000 in
set_option maxRecDepth 100000 in
theorem met_LP {l : Launch} (hlf : l.stackTraces = false) {σ M : Sto} {Ls : List (List Cl)} (r : RepC σ M Ls) (o : sOK shC σ) {p q : Int} (zp : z32 p) (zq : z32 q) (D : va_G) (cA : FieldType → ClassId) (cL : ClassId) (A : Nat → Prop) (ad : Nat → Nat) (q3 sa : Nat) (v : Nat → Int64) :
    vx_Met l yL_person (cwP :: gwT) rmPL (PL D cA cL A ad q3 sa p q σ v) (QL D cA cL A ad q3 p q σ M) (XL A) 1 6 A := by
  refine vx_ofWH (cc := cL_person) (maxL := 5) (ret := some .int) (by decide) rfl ?_
  intro pr e s m args below meth c s₁ B hml hP
  obtain ⟨rfl, hP1, hP3, ⟨hK, hK3⟩, hinj, hadA, h3A, h3ne, hA, hX, hT⟩ := hP
  have hts0 := atoms_spec (ws := cwP :: gwT) B.pre
  have hts : ∀ w ∈ gwT, w.before ([.ref (ad 0), .int (Int32.ofInt p), .int (Int32.ofInt q), .ref q3] : List Value).toArray s = true := fun w hw => hts0 w (List.mem_cons_of_mem _ hw)
  have hown : s.vm.findClass RL = some m.cls := findClass_of_methodNamed B.named
  have htab := vx_table (x := yL_person) B (hts0 cwP List.mem_cons_self)
  have hx := B.exec
  have hb := B.bytes
  have hr := B.returns
  have hlk := B.notSynchronized
  have hl := lv_entry ([.ref (ad 0), .int (Int32.ofInt p), .int (Int32.ofInt q), .ref q3]) (n := 5) (Nat.le_of_ble_eq_true rfl)
  show W pr l e rmPL s m _ below meth c s.heap [] 0 0 _ _
  rw [lg_entry_eq]
  generalize (lg_sl ([.ref (ad 0), .int (Int32.ofInt p), .int (Int32.ofInt q), .ref q3]) ++ List.replicate (5 - (lg_sl ([.ref (ad 0), .int (Int32.ofInt p), .int (Int32.ofInt q), .ref q3])).length) Slot.unset).toArray = ls at hl ⊢
  have hl : lv_has ls 5 [(0, .ref (ad 0)), (1, .int (Int32.ofInt p)), (2, .int (Int32.ofInt q)), (3, .ref q3)] := hl
  have hS : va_S A s.heap s.heap [] := va_S.rf
  have hvs : ∀ w ∈ ([.inl p, .inl q] : List AV), vOK shC.length w := by
    intro w hw
    simp only [List.mem_cons, List.not_mem_nil, or_false] at hw
    rcases hw with rfl | rfl
    · exact zp
    · exact zq
  refine lv_aload_n hx hb dL_person_0 rfl (lv_at hl 3 rfl) ?_
  refine lv_iconst (v := 0) hx hb dL_person_1 (by decide) ?_
  refine lv_aload_n hx hb dL_person_2 rfl (lv_at hl 0 rfl) ?_
  refine lv_iload_n hx hb dL_person_3 rfl (lv_at hl 1 rfl) ?_
  refine lv_iload_n hx hb dL_person_4 rfl (lv_at hl 2 rfl) ?_
  by_cases g : gPerson M p q
  · have c1 : Ex 3 mX11_person 0 (entL (eL mX11_person) [.inr (.inr (some 0)), .inl p, .inl q]) [] shC σ (fun r sh' σ' => r = some (.inl (aPerson M p q)) ∧ sh' = shC ∧ σ' = σ) := (C_person (by decide) r g).mpr ⟨rfl, rfl, rfl⟩
    refine lw_callB (own := RL) (nL := 5) (as := [.inl p, .inl q]) (rest := [.int 0, .ref q3]) hA hx hb hml hown hts kLX11_person dL_person_5 c1 hl.1 (by decide) (by decide) (by decide) (by decide) rfl (Nat.le_of_ble_eq_true rfl) hvs hK hX hinj hadA hP1 o (by decide) (by decide) hS (by decide) (by decide) (Nat.le_of_ble_eq_true rfl) (fun r sh' σ' h => by rw [h.2.1]) ?_
    rintro r1 sh1 σ1 H1 locs1 ⟨rfl, rfl, rfl⟩ pC1 hz1 hk1 hS1 oC1 -
    have p31 : va_P D vwCl [(q3, .inl (cL, 1, .inr (.inl v)))] H1 := va_P_out hP3 (fun k q hq hlt => hk1 q.1 hlt (fun h => by
      have hq' := List.mem_of_getElem? hq
      rw [List.mem_singleton] at hq'
      subst hq'
      rcases h with ⟨i1, h1, h2⟩ | h
      · exact h3ne i1 h1 h2.symm
      · omega))
    refine W.eq (g2 := F0 m 8 ls [.int (Int32.ofInt (aPerson M p q)), .int 0, .ref q3]) rfl ?_
    refine lv_i2l hx hb dL_person_8 rfl ?_
    have hD3 : va_D A [(q3, .inl (cL, 1, .inr (.inl v)))] := ⟨fun i j a b ha hb _ => by
      have h1 := (List.getElem?_eq_some_iff.mp ha).1
      have h2 := (List.getElem?_eq_some_iff.mp hb).1
      simp only [List.length_cons, List.length_nil] at h1 h2
      omega, fun k q hq => by
      have hq' := List.mem_of_getElem? hq
      rw [List.mem_singleton] at hq'
      subst hq'
      exact h3A⟩
    have hDw : va_D A (wl ad cA shC σ1) := wl_D hinj hadA
    have hDD := hDw.app hD3 (fun i j a b ha hb he => by
      obtain ⟨i1, i2⟩ := wl_fst ha
      have hq' := List.mem_of_getElem? hb
      rw [List.mem_singleton] at hq'
      subst hq'
      exact h3ne i i1 (i2.symm.trans he))
    refine va_last (tys := [(cL, .long)]) (cA := cL) (n := 1) (f := v) (x := (Int32.ofInt (aPerson M p q)).toInt64) hx hb hK3 (pC1.app p31) hDD hS1 (wl ad cA shC σ1).length 0 (by simp) rfl (by unfold vp_in; decide) dL_person_9 (fun H2 locs2 hP4 hD4 hS2 => ?_)
    obtain ⟨hP5, hP6⟩ := va_P_setL hP4
    refine lv_goto (tgt := 17) hx hb dL_person_10 rfl ?_
    refine lv_iconst (v := 0) hx hb dL_person_17 (by decide) ?_
    refine vx_ret ?_
    refine W.widen (k := 1) (n := 6) (by decide) (by decide) ?_
    exact W.iret (v := 0) hx hb hr (fun t ht hW => ⟨⟨0, vp_updL v (0 : Int32).toNatClampNeg ((Int32.ofInt (aPerson M p q)).toInt64), rfl, ⟨fun _ => ⟨rfl, by unfold vp_updL; exact if_pos rfl⟩, fun h => absurd g h⟩, by rw [ht]; exact hP5, by rw [ht]; exact hP6⟩, hS2.F ht⟩) hS2.2.2 dL_person_18 hlk
  · have c2 := per_thr (l := l) hlf r o zp zq g D cA (wA ad 60 s.heap) ad sa
    have hsub : ∀ z, wA ad 60 s.heap z → A z := fun z h => by
      rcases h with ⟨i, i1, rfl⟩ | h
      · exact hadA i i1
      · exact hA z h
    have hV : Val mX11_person := vmX11_person
    have hws : ∀ w ∈ (Cond.code (eY eP) (eB eP) (eL eP) (eR eP) :: gwT), ∀ (a' : Array Value) (U : State), s.WarmedH U.vm → w.before a' U = true := sx_ws hV.1 hts
    obtain ⟨k1, k2, k3, k4, -⟩ := kLX11_person
    have hrecv : ∃ cell : Cell, s.heap[ad 0]? = some cell ∧ cell.vm.isStatics = false ∧ s.vm.findClass RX11 = some cell.cls := by
      obtain ⟨fs, hk0⟩ := okC_in (rfl : okC shC 0 11 = true)
      exact va_recv hK hP1 (klsT (ci := 11) (by decide)).1 (wl_at hk0)
    have run := vx_runV (l := l) (e := e) (R := rmPL) (below := below) (meth := meth) (H := s.heap) (locs := []) (cells := 0) (slots := 0) (C := RX11) (b := ad 0) (As := [.int (Int32.ofInt p), .int (Int32.ofInt q)]) (rest := [.int 0, .ref q3]) (g := F0 m 5 ls [.int (Int32.ofInt q), .int (Int32.ofInt p), .ref (ad 0), .int 0, .ref q3]) (Ts := gwT) ⟨hx, hb, hml, hown, hts⟩ c2
      ⟨⟨rfl, rfl, by decide, by decide, hws, List.mem_cons_self, hts _ hV.1, hts _ k4, hV.2.2.1, par_of hV.2.2.2.1, hts _ k1⟩, hts _ k2, hts _ k3⟩
      ⟨PP_blind, hrecv, fun U hU hW => ⟨⟨rfl, by rw [hU]; exact hP1, va_K.moved hW.alike hK, wl_D hinj (fun i hi => Or.inl ⟨i, hi, rfl⟩), fun z hz => Or.inr (by rw [hU] at hz; exact hz), Xt_nar (Xt_kept hX hW (fun a _ _ => by rw [hU])) hsub⟩, Th.narrow (Th.kept hT hW (fun a _ _ => by rw [hU])) hsub⟩⟩
      rfl rfl hl.1 rfl (lv_room (Nat.le_of_ble_eq_true rfl)) dL_person_5 ⟨by decide, by decide⟩
    refine vx_calli run hS (fun z _ h => hsub z h) hsub (fun z _ h => hsub z h) ?_ (fun _ _ _ _ _ _ _ h => h.elim)
    intro E ce q9 u t H1 locs1 ht hvm hpx hBX hz hk hS1 hce hcv hcl
    obtain ⟨rfl, pC⟩ := hBX
    rw [ht] at pC
    have p31 : va_P D vwCl [(q3, .inl (cL, 1, .inr (.inl v)))] H1 := va_P_out hP3 (fun k q hq hlt => hk q.1 hlt (fun h => by
      have hq' := List.mem_of_getElem? hq
      rw [List.mem_singleton] at hq'
      subst hq'
      rcases h with ⟨i1, h1, h2⟩ | h
      · exact h3ne i1 h1 h2.symm
      · omega))
    refine ct_catch (own := RL) (name := NSE) hown ⟨0, 10, 13, 13⟩ (by rw [htab]; rfl) (by decide) (by decide) (hts _ (gw_5 (i := 146) rfl rfl)) (va_Nw.use rfl (hT.2.2.2 _ List.mem_cons_self)) hce hcv hcl ?_
    refine lv_astore (nL := 5) hx hb dL_person_13 hl (by decide) rfl (fun ls' hl' => ?_)
    refine lv_iconst (v := 1) hx hb dL_person_15 (by decide) ?_
    refine vx_ret ?_
    exact W.iret (v := 1) hx hb hr (fun t2 ht2 hW => ⟨⟨1, v, rfl, ⟨fun h => absurd h g, fun _ => rfl⟩, by rw [ht2]; exact pC, by rw [ht2]; exact p31⟩, hS1.F ht2⟩) hS1.2.2 dL_person_16 hlk
