theorem tw_1 {i : Nat} {w : Cond} (h : tables_1_1[i]? = some w) : w ∈ lw_tbl := List.mem_append_right _ (List.mem_append_left _ (List.mem_of_getElem? h))
theorem tw_2 {i : Nat} {w : Cond} (h : tables_1_2[i]? = some w) : w ∈ lw_tbl := List.mem_append_right _ (List.mem_append_right _ (List.mem_append_left _ (List.mem_of_getElem? h)))
theorem tw_5 {i : Nat} {w : Cond} (h : tables_1_5[i]? = some w) : w ∈ lw_tbl := List.mem_append_right _ (List.mem_append_right _ (List.mem_append_right _ (List.mem_append_right _ (List.mem_append_right _ (List.mem_append_left _ (List.mem_of_getElem? h))))))
theorem tw_6 {i : Nat} {w : Cond} (h : tables_1_6[i]? = some w) : w ∈ lw_tbl := List.mem_append_right _ (List.mem_append_right _ (List.mem_append_right _ (List.mem_append_right _ (List.mem_append_right _ (List.mem_append_right _ (List.mem_append_left _ (List.mem_of_getElem? h)))))))
theorem tw_7 {i : Nat} {w : Cond} (h : tables_1_7[i]? = some w) : w ∈ lw_tbl := List.mem_append_right _ (List.mem_append_right _ (List.mem_append_right _ (List.mem_append_right _ (List.mem_append_right _ (List.mem_append_right _ (List.mem_append_right _ (List.mem_append_left _ (List.mem_of_getElem? h))))))))
theorem start_K {s : State} {args : Array Value} (hts : ∀ w ∈ gwT, w.before args s = true) (hAO : va_AO RX8 s) : ∃ (D : va_G) (cA : FieldType → ClassId), va_K D vwCl (axtys cA) s := by
  have h0 : ∀ c : Nat, ∃ q : ClassId × (Nat → Nat), c < 13 → u_Kn s (axR c) (axT c) (axN c) q.1 q.2 := by
    intro c
    by_cases hc : c < 13
    · have hk := klsT hc
      obtain ⟨a, b, h⟩ := u_known (ws := gwT) hts hk.2.1 (hts _ hk.2.2.2.2.2.1)
      exact ⟨(a, b), fun _ => h⟩
    · exact ⟨(0, fun _ => 0), fun h => absurd h hc⟩
  obtain ⟨f, hf⟩ := Classical.axiomOfChoice h0
  obtain ⟨aI, kI, pI, i1, i2, i3⟩ := Cond.arrayClass_spec (hts _ gw_arI)
  obtain ⟨aB, kB, pB, b1, b2, b3⟩ := Cond.arrayClass_spec (hts _ gw_arB)
  obtain ⟨aZ, kZ, pZ, z1, z2, z3⟩ := Cond.arrayClass_spec (hts _ gw_arZ)
  obtain ⟨comp, aO, kO, o1, -, o2, o3, o4⟩ := Cond.arrayOver_spec hAO
  refine ⟨(fun c => (f c).1, fun c => (f c).2), fun ty => if ty = .int then aI else if ty = .byte then aB else if ty = .boolean then aZ else aO, fun c q hq => ?_, fun k q hq => ?_⟩
  · have hc : c < 13 := (List.getElem?_eq_some_iff.mp hq).1
    have := (klsT hc).1
    rw [this] at hq
    cases hq
    exact hf c hc
  · have hk : k < 4 := (List.getElem?_eq_some_iff.mp hq).1
    match k, hk with
    | 0, _ => cases hq; exact ⟨fun n z => ⟨fun k h => (by cases h), kI, i2, pI, i3⟩, i1⟩
    | 1, _ => cases hq; exact ⟨fun n z => ⟨fun k h => (by cases h), kB, b2, pB, b3⟩, b1⟩
    | 2, _ => cases hq; exact ⟨fun n z => ⟨fun k h => (by cases h), kZ, z2, pZ, z3⟩, z1⟩
    | 3, _ => cases hq; exact ⟨fun n z => ⟨fun k h => (by cases h), kO, o2, comp, o3⟩, kO, comp, o2, o3, o1, o4⟩
    | (n + 4), h => exact absurd h (by omega)
abbrev flN : List Cond := flatC (Jvm.Cond.and given_1 narrow_1)
theorem nA0 {s : State} : ∀ a : Nat, a < s.heap.size → ¬ A0 s a := fun a h1 h2 => absurd h2 (Nat.not_le.mpr h1)
theorem st_T {args : Array Value} {s : State} {C n d : String} {ty : FieldType} {v : List Int} (harr : (Cond.arrayOf (.static C n d) ty).before args s = true) (hlen : (Cond.eq (.length (.static C n d)) (.int (Int32.ofNat 5))).before args s = true) (hel : ∀ j : Nat, j < 5 → (Cond.eq (.elem (.static C n d) (.int (Int32.ofNat j))) (.int (Int32.ofInt (v.getD j 0)))).before args s = true) (hl : (Cond.laysStatic C n d).before args s = true) (hini : (Cond.initialized C).before args s = true) :
    ∃ t : Nat, va_Z C n d (.ref t) (A0 s) s s.heap ∧ va_T ty t 5 (fun j => .int (Int32.ofInt (v.getD j 0))) (A0 s) s s.heap := by
  obtain ⟨t, h1, h2⟩ := va_Tof (N := 5) (f := fun j => .int (Int32.ofInt (v.getD j 0))) (A := A0 s) (by decide) harr (va_eqt hlen) (fun j hj => va_eqt (hel j hj)) nA0
  exact ⟨t, va_Zof hl hini h1 nA0, h2⟩
set_option maxRecDepth 100000 in
theorem fl_W : Cond.arrayOf (.static RX7 "WITHOUT" "[I") .int ∈ flN ∧ Cond.eq (.length (.static RX7 "WITHOUT" "[I")) (.int (Int32.ofNat 5)) ∈ flN ∧ ∀ j : Nat, j < 5 → Cond.eq (.elem (.static RX7 "WITHOUT" "[I") (.int (Int32.ofNat j))) (.int (Int32.ofInt ((xln .int 1003).getD j 0))) ∈ flN := by decide +kernel
set_option maxRecDepth 100000 in
theorem fl_M : Cond.arrayOf (.static RX7 "MOST" "[I") .int ∈ flN ∧ Cond.eq (.length (.static RX7 "MOST" "[I")) (.int (Int32.ofNat 5)) ∈ flN ∧ ∀ j : Nat, j < 5 → Cond.eq (.elem (.static RX7 "MOST" "[I") (.int (Int32.ofNat j))) (.int (Int32.ofInt ((xln .int 1002).getD j 0))) ∈ flN := by decide +kernel
set_option maxRecDepth 100000 in
theorem fl_L : Cond.arrayOf (.static RX7 "LEAST" "[I") .int ∈ flN ∧ Cond.eq (.length (.static RX7 "LEAST" "[I")) (.int (Int32.ofNat 5)) ∈ flN ∧ ∀ j : Nat, j < 5 → Cond.eq (.elem (.static RX7 "LEAST" "[I") (.int (Int32.ofNat j))) (.int (Int32.ofInt ((xln .int 1001).getD j 0))) ∈ flN := by decide +kernel
set_option maxRecDepth 100000 in
theorem fl_C : Cond.arrayOf (.static RX7 "LETTERS" "[C") .char ∈ flN ∧ Cond.eq (.length (.static RX7 "LETTERS" "[C")) (.int (Int32.ofNat 5)) ∈ flN ∧ ∀ j : Nat, j < 5 → Cond.eq (.elem (.static RX7 "LETTERS" "[C") (.int (Int32.ofNat j))) (.int (Int32.ofInt ((xln .char 1000).getD j 0))) ∈ flN := by decide +kernel
def sTm (i : Nat) : Term := .string RX12 ([26, 32, 251, 253].getD i 0)
abbrev sLn : List Nat := [1, 5, 3, 2]
abbrev sBy : List (List Int32) := [[121], [97, 98, 120, 121, 110], [121, 100, 104], [109, 99]]
set_option maxRecDepth 100000 in
theorem fl_S : ∀ i : Nat, i < 4 → Cond.exactly (sTm i) "java/lang/String" ∈ flN ∧ Cond.eq (.field (sTm i) "java/lang/String" "coder" "B") (.int 0) ∈ flN ∧ Cond.arrayOf (.field (sTm i) "java/lang/String" "value" "[B") .byte ∈ flN ∧ Cond.eq (.length (.field (sTm i) "java/lang/String" "value" "[B")) (.int (Int32.ofNat (sLn.getD i 0))) ∈ flN ∧ ∀ j : Nat, j < sLn.getD i 0 → Cond.eq (.elem (.field (sTm i) "java/lang/String" "value" "[B") (.int (Int32.ofNat j))) (.int ((sBy.getD i []).getD j 0)) ∈ flN := by decide +kernel
set_option maxRecDepth 100000 in
theorem fl_D : ∀ i : Nat, i < 4 → ∀ j : Nat, j < 4 → i ≠ j → Cond.not (Cond.eq (sTm i) (sTm j)) ∈ flN ∨ Cond.not (Cond.eq (sTm j) (sTm i)) ∈ flN := by decide +kernel
set_option maxRecDepth 100000 in
theorem fl_O : Cond.eq (.static "java/lang/String" "COMPACT_STRINGS" "Z") (.int 1) ∈ flN ∧ Cond.isRef (.static "jdk/internal/util/Preconditions" "SIOOBE_FORMATTER" "Ljava/util/function/BiFunction;") ∈ flN ∧ Cond.isRef (.static Bundle.tN "UNASSIGNED_STACK" Bundle.steD) ∈ flN ∧ Cond.isRef (.static Bundle.tN "SUPPRESSED_SENTINEL" Bundle.listD) ∈ flN ∧ Cond.exactly (.string RX11 118) "java/lang/String" ∈ flN := by decide +kernel
theorem start_X {p : Program} {s : State} {m : MethodId} {meth : Method} {c : Code} {b L : Nat} {xs : Nat → Int32} (C0 : lw_At p s m meth c b L xs) : ∃ (ax : Nat → Nat) (sa : Nat), Xt ax (A0 s) s s.heap ∧ Th (A0 s) sa s s.heap := by
  obtain ⟨-, -, -, -, -, hts, -, -, -, hgv⟩ := C0
  have hs := flat_of_before _ hgv
  obtain ⟨tW, w1, w2⟩ := st_T (hs _ fl_W.1) (hs _ fl_W.2.1) (fun j hj => hs _ (fl_W.2.2 j hj)) (hts _ (tw_2 (i := 196) rfl)) (hts _ (tw_1 (i := 3) rfl))
  obtain ⟨tM, m1, m2⟩ := st_T (hs _ fl_M.1) (hs _ fl_M.2.1) (fun j hj => hs _ (fl_M.2.2 j hj)) (hts _ (tw_2 (i := 205) rfl)) (hts _ (tw_1 (i := 3) rfl))
  obtain ⟨tL, l1, l2⟩ := st_T (hs _ fl_L.1) (hs _ fl_L.2.1) (fun j hj => hs _ (fl_L.2.2 j hj)) (hts _ (tw_2 (i := 203) rfl)) (hts _ (tw_1 (i := 3) rfl))
  obtain ⟨tC, c1, c2⟩ := st_T (hs _ fl_C.1) (hs _ fl_C.2.1) (fun j hj => hs _ (fl_C.2.2 j hj)) (hts _ (tw_2 (i := 201) rfl)) (hts _ (tw_1 (i := 3) rfl))
  obtain ⟨adK, adV, k1, k2⟩ := vk_Sof (N := 4) (tm := sTm) (len := sLn) (byt := sBy) (A := A0 s) (by decide) (fun i hi => hs _ (fl_S i hi).1) (fun i hi => hs _ (fl_S i hi).2.1) (fun i hi => hs _ (fl_S i hi).2.2.1) (fun i hi => hs _ (fl_S i hi).2.2.2.1) (fun i hi j hj => hs _ ((fl_S i hi).2.2.2.2 j hj)) (fun i j hi hj hn => (fl_D i hi j hj hn).imp (hs _) (hs _)) nA0
  obtain ⟨sa, -, -, -, sa1, -⟩ := Cond.exactly_spec (args := #[Value.ref b]) (first := s) (o := none) (s := s) (idx := []) (hs _ fl_O.2.2.2.2)
  refine ⟨fun k => if k = 1000 then tC else if k = 1001 then tL else if k = 1002 then tM else if k = 1003 then tW else adK (k - 1010), sa, ⟨?_, ?_, ⟨adV, ?_⟩, ?_, va_AO.of (hts _ (tw_1 (i := 136) rfl)), va_Zof (hts _ (tw_6 (i := 228) rfl)) (hts _ (tw_1 (i := 14) rfl)) (va_eqt (hs _ fl_O.1)) nA0, va_Zqof (hts _ (tw_7 (i := 4) rfl)) (hts _ (tw_1 (i := 16) rfl)) (hs _ fl_O.2.1) nA0⟩, vx_Zqof (hts _ (tw_5 (i := 178) rfl)) (hts _ (tw_1 (i := 20) rfl)) (hs _ fl_O.2.2.1) nA0, vx_Zqof (hts _ (tw_5 (i := 180) rfl)) (hts _ (tw_1 (i := 20) rfl)) (hs _ fl_O.2.2.2.1) nA0, vk_R.of (hts _ (tw_5 (i := 190) rfl)) sa1, fun w hw => va_Nw.of (nsb_tab w hw).2 (hts w (nsb_tab w hw).1)⟩
  · intro k h1 h2
    have : k = 1000 ∨ k = 1001 ∨ k = 1002 ∨ k = 1003 := by omega
    rcases this with rfl | rfl | rfl | rfl
    · exact ⟨c1, c2⟩
    · exact ⟨l1, l2⟩
    · exact ⟨m1, m2⟩
    · exact ⟨w1, w2⟩
  · intro c q hq
    by_cases hc : c = 12
    · subst hc
      have hq' : q = (26, 1010, 1287) ∨ q = (32, 1011, 1288) ∨ q = (251, 1012, 1516) ∨ q = (253, 1013, 1517) := by simpa [axSt] using hq
      rcases hq' with rfl | rfl | rfl | rfl
      · exact vk_R.of (hts _ (tw_5 (i := 225) rfl)) (k2 0 (by decide))
      · exact vk_R.of (hts _ (tw_5 (i := 226) rfl)) (k2 1 (by decide))
      · exact vk_R.of (hts _ (tw_6 (i := 214) rfl)) (k2 2 (by decide))
      · exact vk_R.of (hts _ (tw_6 (i := 215) rfl)) (k2 3 (by decide))
    · exfalso
      revert hq
      unfold axSt
      split
      · exact absurd rfl hc
      · intro h; cases h
  · have e : (fun i => (if 1010 + i = 1000 then tC else if 1010 + i = 1001 then tL else if 1010 + i = 1002 then tM else if 1010 + i = 1003 then tW else adK (1010 + i - 1010))) = adK := by
      funext i
      rw [if_neg (by omega), if_neg (by omega), if_neg (by omega), if_neg (by omega), Nat.add_sub_cancel_left]
    show vk_S 4 sLn sBy (fun i => (if 1010 + i = 1000 then tC else if 1010 + i = 1001 then tL else if 1010 + i = 1002 then tM else if 1010 + i = 1003 then tW else adK (1010 + i - 1010))) adV (A0 s) s s.heap
    rw [e]
    exact k1
  · intro w hw hn
    exact va_Nw.of (by cases w <;> first | (cases hn; done) | rfl) (hts w hw)
