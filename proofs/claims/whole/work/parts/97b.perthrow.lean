theorem dX11_person_0 : decode cX11_person 0 = .ok (.aload_n 0, 1) := by decide +kernel
theorem dX11_person_1 : decode cX11_person 1 = .ok (.iload_n 1, 1) := by decide +kernel
theorem dX11_person_5 : decode cX11_person 5 = .ok (.ifCond .eq 12, 3) := by decide +kernel
theorem dX11_person_8 : decode cX11_person 8 = .ok (.iload_n 2, 1) := by decide +kernel
theorem dX11_person_9 : decode cX11_person 9 = .ok (.iconst 0, 1) := by decide +kernel
theorem dX11_person_10 : decode cX11_person 10 = .ok (.iconst 3, 1) := by decide +kernel
theorem dX11_person_14 : decode cX11_person 14 = .ok (.ifCond .ne 13, 3) := by decide +kernel
theorem dX11_person_17 : decode cX11_person 17 = .ok (.new 116, 3) := by decide +kernel
theorem dX11_person_20 : decode cX11_person 20 = .ok (.dup, 1) := by decide +kernel
theorem dX11_person_21 : decode cX11_person 21 = .ok (.ldc 118, 2) := by decide +kernel
theorem dX11_person_23 : decode cX11_person 23 = .ok (.invokespecial 120, 3) := by decide +kernel
theorem dX11_person_26 : decode cX11_person 26 = .ok (.athrow, 1) := by decide +kernel
abbrev NSb : List Cond := [.castable NSE NSE, .declares (Bundle.initS "java/lang/RuntimeException"), .declares (Bundle.initS "java/lang/Exception"), .declares (Bundle.initS Bundle.tN)]
set_option maxRecDepth 100000 in
theorem ns_tab : ∀ w ∈ NSw.filter goodWord, w ∈ lw_tbl := by decide +kernel
set_option maxRecDepth 100000 in
theorem ns_bad : ∀ w ∈ NSw.filter (fun w => !goodWord w), w ∈ NSb := by decide +kernel
set_option maxRecDepth 100000 in
theorem nsb_tab : ∀ w ∈ NSb, w ∈ lw_tbl ∧ w.onTables = true := by decide +kernel
set_option maxRecDepth 100000 in
theorem ns_ot : ∀ w ∈ Cond.classLink RX11 116 NSE :: Cond.initialized NSE :: NSw, vx_ot w = true := by decide +kernel
theorem ns_c1 : Cond.classLink RX11 116 NSE ∈ gwT := gw_5 (i := 151) rfl rfl
set_option maxRecDepth 100000 in
theorem ns_c2 : Cond.initialized NSE ∈ lw_tbl := by decide +kernel
theorem ns_all {args : Array Value} {s : State} (hts : ∀ w ∈ gwT, w.before args s = true) (hb : ∀ w ∈ NSb, va_Nw w s) : ∀ w ∈ NSw, w.before args s = true := by
  intro w hw
  by_cases g : goodWord w = true
  · exact hts w (List.mem_filter.mpr ⟨ns_tab w (List.mem_filter.mpr ⟨hw, g⟩), g⟩)
  · have h := ns_bad w (List.mem_filter.mpr ⟨hw, by simpa using g⟩)
    exact va_Nw.use (nsb_tab w h).2 (hb w h)
def Th (A : Nat → Prop) (sa : Nat) (U : State) (H : Heap) : Prop := vx_Zq Bundle.tN "UNASSIGNED_STACK" Bundle.steD A U H ∧ vx_Zq Bundle.tN "SUPPRESSED_SENTINEL" Bundle.listD A U H ∧ vk_R RX11 118 NSt sa U ∧ ∀ w ∈ NSb, va_Nw w U
theorem Th.kept {A : Nat → Prop} {sa : Nat} {U V : State} {H H1 : Heap} (h : Th A sa U H) (hW : U.WarmedH V.vm) (hq : ∀ a : Nat, a < H.size → ¬ A a → H1[a]? = H[a]?) : Th A sa V H1 := by
  refine ⟨(h.1.moved hW.alike).kept hq, (h.2.1.moved hW.alike).kept hq, h.2.2.1.warm hW, fun w hw => ?_⟩
  have h0 := h.2.2.2 w hw
  simp only [List.mem_cons, List.not_mem_nil, or_false] at hw
  rcases hw with rfl | rfl | rfl | rfl
  · exact va_Nw.warmC hW h0
  · exact va_Nw.warmD hW h0
  · exact va_Nw.warmD hW h0
  · exact va_Nw.warmD hW h0
theorem Th.same {A : Nat → Prop} {sa : Nat} {U V : State} {H : Heap} (h : Th A sa U H) (hv : V.vm = U.vm) : Th A sa V H := ⟨h.1.moved (by rw [hv]; exact Vm.Alike.refl _), h.2.1.moved (by rw [hv]; exact Vm.Alike.refl _), h.2.2.1.same hv, fun w hw => va_tabs (nsb_tab w hw).2 hv.symm (h.2.2.2 w hw)⟩
theorem Th.narrow {A B : Nat → Prop} {sa : Nat} {U : State} {H : Heap} (h : Th A sa U H) (hAB : ∀ q, B q → A q) : Th B sa U H := ⟨h.1.narrow hAB, h.2.1.narrow hAB, h.2.2⟩
abbrev XP (D : va_G) (cA : FieldType → ClassId) (A : Nat → Prop) (ad : Nat → Nat) (σ : Sto) : String → State → State → Prop := vx_X (fun _ : Unit => True) (fun E _ t => E = NSE ∧ va_P D vwCl (wl ad cA shC σ) t.heap) A
abbrev PP (D : va_G) (cA : FieldType → ClassId) (A : Nat → Prop) (ad : Nat → Nat) (sa : Nat) (p q : Int) (σ : Sto) : Array Value → State → Prop := fun a U => aP D cA A ad [.inr (.inr (some 0)), .inl p, .inl q] shC σ a U ∧ Th A sa U U.heap
theorem PP_blind {D : va_G} {cA : FieldType → ClassId} {A : Nat → Prop} {ad : Nat → Nat} {sa : Nat} {p q : Int} {σ : Sto} : FrameBlind (PP D cA A ad sa p q σ) := fun a U g mk h => ⟨aP_blind a U g mk h.1, Th.same (U := U) (V := U.calling g mk a) h.2 rfl⟩
theorem C_within {d : Nat} {n a b : Int} {σ : Sto} {Q : Option AV → List Kd → Sto → Prop} : Ex d mX11_within 0 [(some (.inl n)), (some (.inl a)), (some (.inl b))] [] shC σ Q = Q (some (.inl (bz (a ≤ n ∧ n ≤ b)))) shC σ := by
  rw [sX11_within_0, sX11_within_1, sX11_within_2]
  by_cases h1 : n < a
  · rw [if_pos h1, sX11_within_14, sX11_within_15, bz, if_neg (by omega)]; simp
  · rw [if_neg h1, sX11_within_5, sX11_within_6, sX11_within_7]
    by_cases h2 : b < n
    · rw [if_pos h2, sX11_within_14, sX11_within_15, bz, if_neg (by omega)]; simp
    · rw [if_neg h2, sX11_within_10, sX11_within_11, sX11_within_15, bz, if_pos (by omega)]; simp
abbrev eP : MEnt := mX11_person
set_option maxHeartbeats 4000000 in
set_option maxRecDepth 100000 in
theorem per_thr {l : Launch} (hlf : l.stackTraces = false) {σ M : Sto} {Ls : List (List Cl)} (r : RepC σ M Ls) (o : sOK shC σ) {p q : Int} (zp : z32 p) (zq : z32 q) (hg : ¬ gPerson M p q) (D : va_G) (cA : FieldType → ClassId) (A : Nat → Prop) (ad : Nat → Nat) (sa : Nat) :
    vx_Met l (eY eP) (Cond.code (eY eP) (eB eP) (eL eP) (eR eP) :: gwT) (rm 3 1 6) (PP D cA A ad sa p q σ) (va_Qi (fun (_ : Int32) (_ : Unit) => False) (fun _ _ => True) A) (XP D cA A ad σ) 1 6 A := by
  have hV : Val eP := vmX11_person
  refine vx_ofW (cc := eB eP) (maxL := eL eP) (ret := eR eP) (by decide) rfl ?_
  intro pr e s m args below meth c s₁ B hml hnt hP
  obtain ⟨⟨rfl, hP1, hK, hD, hA, hX⟩, hT⟩ := hP
  have hts0 := atoms_spec (ws := Cond.code (eY eP) (eB eP) (eL eP) (eR eP) :: gwT) B.pre
  have hts : ∀ w ∈ gwT, w.before ([.inr (.inr (some 0)), .inl p, .inl q].map (cV ad)).toArray s = true := fun w hw => hts0 w (List.mem_cons_of_mem _ hw)
  have hown : s.vm.findClass RX11 = some m.cls := findClass_of_methodNamed B.named
  have Bd0 : Bd pr (rm 3 1 6) s m ([.inr (.inr (some 0)), .inl p, .inl q].map (cV ad)).toArray meth c eP D cA A ad := ⟨B.exec, B.bytes, B.returns, hml, hown, hts, B.notSynchronized, (name_of_methodNamed B.named B.method).1, hK, hA, hX, hV, by decide, by decide⟩
  have hx := B.exec
  have hb := B.bytes
  have hln : (entA [.inr (.inr (some 0)), .inl p, .inl q]).length ≤ eL eP := Nat.le_of_ble_eq_true rfl
  have hl := ent_has (ad := ad) (n := eL eP) (as := [.inr (.inr (some 0)), .inl p, .inl q]) hln
  have hvs : ∀ v ∈ ([.inr (.inr (some 0)), .inl p, .inl q] : List AV), vOK shC.length v := by
    intro v hv
    simp only [List.mem_cons, List.not_mem_nil, or_false] at hv
    rcases hv with rfl | rfl | rfl
    · exact fun k hk => by cases hk; exact Or.inl (by decide)
    · exact zp
    · exact zq
  have hll := entL_len hln
  have hlo := entL_ok (n := eL eP) hvs
  show W pr l e (rm 3 1 6) s m _ below meth c s.heap [] 0 0 _ _
  rw [lg_entry_eq]
  generalize (lg_sl ([.inr (.inr (some 0)), .inl p, .inl q].map (cV ad)) ++ List.replicate (eL eP - (lg_sl ([.inr (.inr (some 0)), .inl p, .inl q].map (cV ad))).length) Slot.unset).toArray = ls at hl ⊢
  have hS0 : va_S A s.heap s.heap [] := va_S.rf
  have thr : ∀ (H : Heap) (locs : List Loc), va_P D vwCl (wl ad cA shC σ) H → va_S A s.heap H locs → W pr l e (rm 3 1 6) s m ([.inr (.inr (some 0)), .inl p, .inl q].map (cV ad)).toArray below meth c H locs 0 0 (vx_MQ below (va_Qi (fun (_ : Int32) (_ : Unit) => False) (fun _ _ => True) A) (XP D cA A ad σ) ([.inr (.inr (some 0)), .inl p, .inl q].map (cV ad)).toArray s 1 6 A) (F0 m 17 ls []) := by
    intro H locs hPH hS
    refine vx_throwN (sa := sa) (text := NSt) (ik := 116) (is := 118) (A := A) hx hb hlf hown (hts _ ns_c1) (hts _ (List.mem_filter.mpr ⟨ns_c2, rfl⟩)) hT.2.2.1 (ns_all hts hT.2.2.2) ns_ot hT.1 hT.2.1 hS (by rw [hml]; exact hl.1) dX11_person_17 dX11_person_20 dX11_person_21 dX11_person_23 dX11_person_26 (fun x hx => (hnt x hx).elim) (by decide) (by decide) (by decide) (by decide) B.notSynchronized ?_ hS.2.2 (by decide) (by decide)
    intro t ht hz hk
    refine ⟨(), trivial, ⟨rfl, va_P_out hPH (fun k q hq hlt => hk _ hlt)⟩, Nat.le_trans hS.1 hz, fun q h1 h2 => ?_⟩
    rw [hk q (Nat.lt_of_lt_of_le h1 hS.1)]
    exact hS.2.1 q h1 h2
  refine lv_aload_n hx hb dX11_person_0 rfl (lv_at hl 0 rfl) ?_
  refine lv_iload_n hx hb dX11_person_1 rfl (lv_at hl 1 rfl) ?_
  have c1 : Ex 2 mX11_isPerson 0 [(some (.inr (.inr (some (0))))), (some (.inl (p)))] [] shC σ (fun r sh' σ' => r = some (.inl (bz (0 ≤ p ∧ p < M 0 0))) ∧ sh' = shC ∧ σ' = σ) := (C_isPerson r).mpr ⟨rfl, rfl, rfl⟩
  obtain ⟨f1, r1, sh1, σ1, x1, rfl, rfl, rfl⟩ := c1
  obtain ⟨arr1, run1⟩ := call_run (l := l) (e := e) (below := below) (cells := 0) (slots := 0) (c1 := 0) (s1 := 0) (d := 2) (X := 1) (Y := 6) (H := s.heap) (locs := []) (lsA := ls) (ls := entL (eL eP) [.inr (.inr (some 0)), .inl p, .inl q]) (pc := 2) (st := [.inl p, .inr (.inr (some 0))]) (sh := shC) (σ := σ1) (y := mX11_isPerson) (as := [.inr (.inr (some 0)), .inl p]) (rest := []) Bd0 (stp_ok (by decide +kernel : decOK mX11_person 2 (.invokevirtual 109) 3) rfl) ⟨hl, hll, hlo, fun v hv => by
      simp only [List.mem_cons, List.not_mem_nil, or_false] at hv
      rcases hv with rfl | rfl
      · exact zp
      · exact fun k hk => by cases hk; exact Or.inl (by decide)⟩ ⟨hP1, hD, hS0, o, by decide⟩ (by decide) (by decide) (fun hVy hl has => met_of (sound l f1) hVy x1 hl has o (by decide) D cA A ad)
  refine W_callL run1 hS0 (fun _ h => h) (fun ad' H1 locs1 a1 a2 a3 a4 a5 a6 a7 => ?_)
  have e1 : wl ad' cA shC σ1 = wl ad cA shC σ1 := wl_ag a1 a6
  rw [e1] at a2
  refine W.eq (g2 := F0 m 5 ls [.int (Int32.ofInt (bz (0 ≤ p ∧ p < M 0 0)))]) rfl ?_
  by_cases gp : 0 ≤ p ∧ p < M 0 0
  · rw [bz, if_pos gp]
    refine lv_if_eq (tgt := 17) hx hb dX11_person_5 rfl (fun h => absurd h (by decide)) (fun _ => ?_)
    have gq : ¬ (0 ≤ q ∧ q ≤ 3) := fun h => hg ⟨gp, h⟩
    refine lv_iload_n hx hb dX11_person_8 rfl (lv_at hl 2 rfl) ?_
    refine lv_iconst (v := 0) hx hb dX11_person_9 (by decide) ?_
    refine lv_iconst (v := 3) hx hb dX11_person_10 (by decide) ?_
    have c2 : Ex 2 mX11_within 0 [(some (.inl q)), (some (.inl 0)), (some (.inl 3))] [] shC σ1 (fun r sh' σ' => r = some (.inl (bz (0 ≤ q ∧ q ≤ 3))) ∧ sh' = shC ∧ σ' = σ1) := C_within.mpr ⟨rfl, rfl, rfl⟩
    obtain ⟨f2, r2, sh2, σ2, x2, rfl, rfl, rfl⟩ := c2
    have z3 : ∀ n : Int, n = 0 ∨ n = 3 → vOK shC.length (.inl n) := fun n h => ⟨by omega, by omega⟩
    obtain ⟨arr2, run2⟩ := call_run (l := l) (e := e) (below := below) (cells := 0) (slots := 0) (c1 := 0) (s1 := 0) (d := 2) (X := 1) (Y := 6) (H := H1) (locs := locs1) (lsA := ls) (ls := entL (eL eP) [.inr (.inr (some 0)), .inl p, .inl q]) (pc := 11) (st := [.inl 3, .inl 0, .inl q]) (sh := shC) (σ := σ2) (y := mX11_within) (as := [.inl q, .inl 0, .inl 3]) (rest := []) Bd0 (stp_ok (by decide +kernel : decOK mX11_person 11 (.invokestatic 112) 3) rfl) ⟨hl, hll, hlo, fun v hv => by
        simp only [List.mem_cons, List.not_mem_nil, or_false] at hv
        rcases hv with rfl | rfl | rfl
        · exact z3 3 (Or.inr rfl)
        · exact z3 0 (Or.inl rfl)
        · exact zq⟩ ⟨a2, hD, a5, o, by decide⟩ (by decide) (by decide) (fun hVy hl has => met_of (sound l f2) hVy x2 hl has o (by decide) D cA A ad)
    refine W_callL run2 a5 (fun _ h => h) (fun ad2 H2 locs2 b1 b2 b3 b4 b5 b6 b7 => ?_)
    have e2 : wl ad2 cA shC σ2 = wl ad cA shC σ2 := wl_ag b1 b6
    rw [e2] at b2
    refine W.eq (g2 := F0 m 14 ls [.int (Int32.ofInt (bz (0 ≤ q ∧ q ≤ 3)))]) rfl ?_
    rw [bz, if_neg gq]
    refine lv_if_ne (tgt := 27) hx hb dX11_person_14 rfl (fun h => absurd rfl h) (fun _ => ?_)
    exact thr H2 locs2 b2 b5
  · rw [bz, if_neg gp]
    exact lv_if_eq (tgt := 17) hx hb dX11_person_5 rfl (fun _ => thr H1 locs1 a2 a5) (fun h => absurd rfl h)
