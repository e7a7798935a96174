theorem he_of {ci : Nat} (hc : ci < 13) {ax : Nat → Nat} {cA : FieldType → ClassId} (q : Nat) : wl (fun k => if k = 0 then q else ax k) cA (sh0 ci) sz0 = [(q, .inr (ci, (axD ci).mapIdx (fun j f => fV ax ci (fun _ => 0) j f)))] := by
  obtain ⟨q1, q2, q3, q4, q5, q6, q7, q8, q9⟩ := klsT hc
  have h : (axD ci).mapIdx (fun j f => fV (fun k => if k = 0 then q else ax k) ci (sz0 0) j f) = (axD ci).mapIdx (fun j f => fV ax ci (fun _ => 0) j f) := by
    apply List.ext_getElem?
    intro j
    rw [List.getElem?_mapIdx, List.getElem?_mapIdx]
    cases hj : (axD ci)[j]? with
    | none => rfl
    | some f =>
      have hjl : j < axN ci := by rw [← q5]; exact (List.getElem?_eq_some_iff.mp hj).1
      by_cases hp : isJ (axTy ci j) = true ∨ isP (axTy ci j) = true
      · rw [q8 j hjl hp] at hj; cases hj; rfl
      · rw [(q9 j hjl hp).1] at hj; cases hj; rfl
  rw [← h]
  rfl
theorem kI_C : Cond.methodLink RL 15 (eY mX11_init) ∈ gwT ∧ Cond.instanceMethod (eY mX11_init) ∈ gwT ∧ Cond.initialized (eY mX11_init).cls ∈ gwT := ⟨gw_1 (i := 27) rfl rfl, gw_1 (i := 28) rfl rfl, gw_1 (i := 1) rfl rfl⟩
theorem kI_R : Cond.methodLink RL 18 (eY mX12_init) ∈ gwT ∧ Cond.instanceMethod (eY mX12_init) ∈ gwT ∧ Cond.initialized (eY mX12_init).cls ∈ gwT := ⟨gw_5 (i := 221) rfl rfl, gw_5 (i := 222) rfl rfl, gw_1 (i := 13) rfl rfl⟩
set_option maxRecDepth 100000 in
theorem cl_C : Cond.classLink RL 8 (axR 11) ∈ gwT ∧ Cond.classLink RL 16 (axR 12) ∈ gwT := by decide +kernel
set_option maxHeartbeats 1500000 in
set_option maxRecDepth 100000 in
theorem whole_start {p : Program} {e : Env} {s : State} {m : MethodId} {below : List Frame} {meth : Method} {c : Code} (l : Launch) (hlf : l.stackTraces = false) {b L : Nat} {xs : Nat → Int32} (hL : L ≤ 3072) (C0 : lw_At p s m meth c b L xs) : W p l e room_1 s m #[Value.ref b] below meth c s.heap [] 0 0 (lw_Z below #[Value.ref b] s) (entryFrame m ([Value.ref b] : List Value).toArray 7) := by
  obtain ⟨ax, sa, hX, hT⟩ := start_X C0
  have C1 := C0
  obtain ⟨hx, hb, -, hml, hown, hts, hXs, hbl, -, -⟩ := C0
  have hts' : ∀ w ∈ gwT, w.before #[Value.ref b] s = true := fun w hw => hts w (List.mem_filter.mp hw).1
  obtain ⟨D, cA, hK⟩ := start_K hts' hX.2.2.2.2.1
  have hl := lv_entry ([.ref b]) (n := 7) (Nat.le_of_ble_eq_true rfl)
  rw [lg_entry_eq]
  generalize (lg_sl ([.ref b]) ++ List.replicate (7 - (lg_sl ([.ref b])).length) Slot.unset).toArray = ls at hl ⊢
  have hl : lv_has ls 7 [(0, .ref b)] := hl
  obtain ⟨σC, cC, sC, xC, bC1, bC2, rC, eC1⟩ := ini_C
  obtain ⟨σR, cR, sR, xR, bR1, bR2, rR, eR1⟩ := ini_R
  have n11 : axN 11 = 8 := rfl
  have n12 : axN 12 = 60 := rfl
  have hP0 : va_P D vwCl [] s.heap := fun k q hk => by cases hk
  have hD0 : va_D (A0 s) [] := ⟨fun i j a b ha _ _ => (by cases ha), fun k q hk => (by cases hk)⟩
  refine lw_ctor (ci := 11) (idxN := 8) (idxI := 15) (y := mX11_init) (ws := []) (ax := ax) hx hb hml hown hts' (by decide) cl_C.1 vmX11_init ⟨rfl, rfl, rfl, by decide⟩ kI_C.1 kI_C.2.1 kI_C.2.2 dL_law_0 dL_law_3 dL_law_4 xC (he_of (by decide)) hl.1 hK hX hP0 hD0 va_S.rf (by show 0 + 1 + cC ≤ 601024; omega) (by show 0 + axN 11 + sC ≤ 7293034; omega) ?_
  intro adC H1 locs1 pC _ injC geC _ hXC oC hS1
  have pC := wl_ext pC eC1
  have oC := sOK_ext oC eC1
  rw [shC_len] at injC geC
  refine lv_astore_n (nL := 7) hx hb dL_law_7 rfl hl (by decide) rfl (fun ls1 hl1 => ?_)
  refine lw_ctor (ci := 12) (idxN := 16) (idxI := 18) (y := mX12_init) (ws := wl adC cA shC (nC σC)) (ax := ax) hx hb hml hown hts' (by decide) cl_C.2 vmX12_init ⟨rfl, rfl, rfl, by decide⟩ kI_R.1 kI_R.2.1 kI_R.2.2 dL_law_8 dL_law_11 dL_law_12 xR (he_of (by decide)) hl1.1 hK hX pC (wl_D injC geC) hS1 (by show 0 + 1 + cC + 1 + cR ≤ 601024; omega) (by show 0 + axN 11 + sC + axN 12 + sR ≤ 7293034; omega) ?_
  intro adR H2 locs2 pR pC2 injR geR apR hXR oR hS2
  have pR := wl_ext pR eR1
  have oR := sOK_ext oR eR1
  rw [shR_len] at injR geR apR
  have hap : ∀ i j, i < 60 → j < 28 → adC i ≠ adR j := fun i j hi hj he => by
    obtain ⟨x, hx1⟩ : ∃ x, shC[i]? = some x := ⟨_, List.getElem?_eq_getElem (by rw [shC_len]; exact hi)⟩
    exact apR j hj i _ (wl_at hx1) he.symm
  refine lv_astore_n (nL := 7) hx hb dL_law_15 rfl hl1 (by decide) rfl (fun ls2 hl2 => ?_)
  refine lv_iconst (v := 1) hx hb dL_law_16 (by decide) ?_
  have hDD := (wl_D (cA := cA) (sh := shC) (σ := nC σC) (A := A0 s) injC geC).app (wl_D (cA := cA) (sh := shR 1) (σ := nR σR) (A := A0 s) injR geR) (fun i j x z hi hj he => by
    obtain ⟨i1, i2⟩ := wl_fst hi
    obtain ⟨j1, j2⟩ := wl_fst hj
    exact hap i j i1 j1 (by rw [← i2, ← j2]; exact he))
  refine va_newa (atype := .long) (ty := .long) (N' := 1) (a0 := (1, .inr (.inl (fun _ => 0)))) hx hb (hts' (.arrayClass .long) (gw_8 (i := 163) rfl rfl)) rfl hK (pC2.app pR) hDD hS2 (fun q h => h) (fun _ => rfl) (by decide) (by decide) (by decide) (by show 0 + 1 + cC + 1 + cR + 1 ≤ 601024; omega) (by show 0 + axN 11 + sC + axN 12 + sR + 1 ≤ 7293034; omega) dL_law_17 (fun q3 cL H3 hK3 hP3 hD3 hS3 => ?_)
  have hK4 : va_K D vwCl [(cL, .long)] s := hK3.sub [4] rfl
  obtain ⟨ap3, g3⟩ := va_D_ap hD3
  have p12 := va_P_l hP3
  refine lv_astore_n (nL := 7) hx hb dL_law_19 rfl hl2 (by decide) rfl (fun ls3 hl3 => ?_)
  refine lv_iconst (v := 0) hx hb dL_law_20 (by decide) ?_
  refine lv_istore (nL := 7) hx hb dL_law_21 hl3 (by decide) rfl (fun ls4 hl4 => ?_)
  have hl5 : lv_has ls4 7 (lcs b adC adR q3 0) := hl4
  have F : LF p s m meth c b L xs D cA cL adC adR q3 := ⟨C1, hL, hK, hK4, ⟨hXC, hXR⟩, ⟨injC, injR⟩, ⟨geC, geR, g3⟩, hap, fun i hi he => by
      obtain ⟨x, hx1⟩ : ∃ x, shC[i]? = some x := ⟨_, List.getElem?_eq_getElem (by rw [shC_len]; exact hi)⟩
      have hlt : i < (wl adC cA shC (nC σC)).length := by rw [show (wl adC cA shC (nC σC)).length = 60 by simp [wl, shC_len]]; exact hi
      exact ap3 i _ (by rw [List.getElem?_append_left hlt]; exact wl_at hx1) he, fun j hj he => by
      obtain ⟨x, hx1⟩ : ∃ x, (shR 1)[j]? = some x := ⟨_, List.getElem?_eq_getElem (by rw [shR_len]; exact hj)⟩
      exact ap3 ((wl adC cA shC (nC σC)).length + j) _ (by rw [List.getElem?_append_right (by omega), Nat.add_sub_cancel_left]; exact wl_at hx1) he⟩
  exact lw_loop hlf F hT 512 0 H3 locs2 ls4 M0 [] _ _ (by omega) (by omega) hl5 ⟨1, nC σC, nR σR, fun _ => 0, va_P_l p12, va_P_r p12, va_P_r hP3, oC, oR, rC, rR, hS3⟩ (by show 0 + 1 + cC + 1 + cR + 1 + 512 ≤ 601024; omega) (by show 0 + axN 11 + sC + axN 12 + sR + 1 + 6 * 512 ≤ 7293034; omega)
set_option maxHeartbeats 4000000 in
theorem lw_walk (l : Launch) (hlf : l.stackTraces = false) (b : Addr) (xs : List Int32) : MetFree l x (headSpec (Jvm.Cond.code x code maxLocals ret :: tables_1) room_1) (lw_P b xs) (fun _ _ _ _ _ => True) lw_Q := by
  refine MetFree.of_bodyS (code := code) (maxLocals := maxLocals) (ret := ret) (by decide) ?_ ?_
  · intro args s m h hn
    obtain ⟨meth, c, h1, h2, h3, h4, h5, h6, -, -⟩ := Cond.code_spec hn (atoms_spec (ws := Jvm.Cond.code x code maxLocals ret :: tables_1) h _ List.mem_cons_self)
    exact ⟨meth, c, h1, h2, h3, h4, h5, h6⟩
  · intro p e s m args below meth c s₁ B hml0 hP _
    obtain ⟨rfl, hx, hbd, hgv⟩ := hP
    obtain ⟨scr, harrAt, hlist, hof, hsmall⟩ := hx
    obtain ⟨hcb, hkn, -, -⟩ := State.arrayAt?_spec harrAt
    have hown : s.vm.findClass RL = some m.cls := findClass_of_methodNamed B.named
    have hts0 : ∀ c ∈ (Jvm.Cond.code x code maxLocals ret :: tables_1), c.before #[Value.ref b] s = true := atoms_spec (ws := Jvm.Cond.code x code maxLocals ret :: tables_1) B.pre
    have hts : ∀ w ∈ lw_tbl, w.before #[Value.ref b] s = true := k2_hts_sels lw_privs (fun w hw => hts0 w (List.mem_cons_of_mem _ hw)) lw_privs_ok
    have hml : c.maxLocals = 7 := B.maxLocals_eq (hts0 _ List.mem_cons_self)
    have X₀ : Stand p l e room_1 s m #[Value.ref b] below meth c s₁ [] 0 0 := Stand.of_body B
    have hh0 : s₁.heap = s.heap := by rw [B.state]; rfl
    have hsz : scr.slots.size = xs.length := by rw [← Array.length_toList, hlist, List.length_map]
    have hval : ∀ j : Nat, j < xs.length → scr.slots[j]? = some (.int (xs.getD j 0)) := fun j hj => by
      rw [← Array.getElem?_toList, hlist]
      simp [hj]
    have hbl : b < s.heap.size := (Array.getElem?_eq_some_iff.mp hcb).1
    have hX : va_X b xs.length (fun j => xs.getD j 0) s s.heap := ⟨scr, hcb, hof, hkn, hsz, hval⟩
    have K : W p l e room_1 s m #[Value.ref b] below meth c s₁.heap [] 0 0 (lw_Z below #[Value.ref b] s) (entryFrame m ([Value.ref b] : List Value).toArray 7) := by
      rw [hh0]
      exact whole_start l hlf hbd ⟨B.exec, B.bytes, B.returns, hml, hown, hts, hX, hbl, B.notSynchronized, hgv⟩
    obtain ⟨t, a1, o, b1, b2, b3⟩ := K s₁ rfl X₀
    exact ⟨t, o, a1, b1, b2, b3⟩
theorem lw_pre_spec {args : Array Value} {s : State} (h : (Jvm.Cond.and given_1 narrow_1).before args s = true) (hr : rest_1_c.before args s = true) : ∃ (b : Addr) (xs : List Int32), lw_P b xs args s := by
  have hs := flat_of_before _ h
  have hq := flat_of_before _ hr
  have hc : (Cond.count 1).before args s = true := hs _ (by decide +kernel)
  have harr : (Cond.arrayOf (.arg 0) .int).before args s = true := hs _ (by decide +kernel)
  have hle : (Cond.le (.length (.arg 0)) (.int 3072)).before args s = true := hs _ (by decide +kernel)
  have hlen : (Cond.isInt (.length (.arg 0))).before args s = true := hq _ (by decide +kernel)
  have hall : (Cond.all (.arg 0) (.isInt (.elem (.arg 0) (.index 0)))).before args s = true := hq _ (by decide +kernel)
  obtain ⟨b, xs, hb, hx⟩ := State.ints_of_pre rfl harr hlen hall
  have hsm : xs.length < 2 ^ 31 := hx.choose_spec.2.2.2
  have hev : (Term.length (.arg 0)).eval args s none [] s = some (.int xs.length.toInt32) := hx.length_eval hb
  have hv := Cond.le_ints hev (show (Term.int 3072).eval args s none [] s = some (.int 3072) from rfl)
  have hd : xs.length.toInt32 ≤ 3072 := by
    simpa [Cond.before, Cond.holds, hv] using hle
  have hN : xs.length ≤ 3072 := (Int32.ofNat_le_ofNat hsm (by decide)).mp (show Int32.ofNat xs.length ≤ Int32.ofNat 3072 from hd)
  exact ⟨b, xs, Cond.one_arg hc (show args[0]? = some (.ref b) from hb), hx, hN, h⟩
theorem lw_comes (l : Launch) (hlf : l.stackTraces = false) : Comes l x (Jvm.Cond.code x code maxLocals ret :: tables_1) room_1 (fun tb e args s => Calls_1 tb e args s ∧ rest_1 tb e args s ∧ Pre_1 tb e args s)
    (fun _ _ args s o t => lw_Q args s o t) := by
  intro p e ha hc hk s m args below hf hfit hheap happ hpre
  obtain ⟨b, xs, hP⟩ := lw_pre_spec hpre.2.2 hpre.2.1
  obtain ⟨k, o, h1, h2, h3, hQ⟩ := lw_walk l hlf b xs p e ha hc hk s m args below hf ((Spec.applies_iff_loose hf).mp happ).1 hP trivial
  exact ⟨k, o, h1, h2, h3, hQ⟩
theorem lw_frame {s t : State} {o : Outcome} {args : Array Value} (h : Framed s o t [] 601024 7293034) :
    Framed s o t (fieldLocs frame_1_writes args s ++ arrayLocs frame_1_arrays args s ++ staticLocs frame_1_statics s) 601024 7293034 := h
theorem lw_limb (L : Cond) (hL : ∀ (args : Array Value) (s t : State), L.after args s (.returned (some (.int 1))) t = true) :
    ArmFor flags0 classFile x code maxLocals ret World_1 tables_1 room_1 Calls_1 rest_1 Pre_1
      (fun tb e a s o t => postC L tb e a s o t ∧ Framed s o t (fieldLocs frame_1_writes a s ++ arrayLocs frame_1_arrays a s ++ staticLocs frame_1_statics s) 601024 7293034) := by
  intro l hfl _ _ p e ha hc hk s m args below hf hfit hheap happ hpre
  have hlf : l.stackTraces = false := by unfold Launch.stackTraces; rw [hfl]; decide
  obtain ⟨k, o, h1, h2, h3, rfl, hF⟩ := lw_comes l hlf p e ha hc hk s m args below hf hfit hheap happ hpre
  exact ⟨k, _, h1, h2, h3, hL args s _, lw_frame hF⟩
theorem i_vc : Claimed_1_1 ∧ Claimed_1_2 := ⟨lw_limb limb_1_1 (fun args s t => by simp [limb_1_1, Cond.after, Cond.holds, Cond.value]), lw_limb limb_1_2 (fun args s t => Cond.after_iff.mpr (by
  first | (rw [show limb_1_2 = Cond.eq .result (.int 1) from rfl, Cond.eq_ints (x := 1) (y := 1) rfl rfl]; simp; done) | (simp [limb_1_2, Cond.value, Term.eval]; done)))⟩
