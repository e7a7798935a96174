def sdV (a b : Int32) : Int64 := (a.toInt64 <<< ((32 : Int32).toInt64 &&& 63)) ||| (b.toInt64 &&& 4294967295)
def rowS (p0 : Nat) : Prop := (decode code p0 = .ok (.aload_n 0, 1) ∧ decode code (p0 + 1) = .ok (.iload 4, 2) ∧ decode code (p0 + 3) = .ok (.iconst 1, 1) ∧ decode code (p0 + 4) = .ok (.iadd, 1) ∧ decode code (p0 + 5) = .ok (.iaload, 1)) ∧ (decode code (p0 + 6) = .ok (.i2l, 1) ∧ decode code (p0 + 7) = .ok (.bipush 32, 2) ∧ decode code (p0 + 9) = .ok (.lshl, 1)) ∧
  (decode code (p0 + 10) = .ok (.aload_n 0, 1) ∧ decode code (p0 + 11) = .ok (.iload 4, 2) ∧ decode code (p0 + 13) = .ok (.iconst 2, 1) ∧ decode code (p0 + 14) = .ok (.iadd, 1) ∧ decode code (p0 + 15) = .ok (.iaload, 1)) ∧ (decode code (p0 + 16) = .ok (.i2l, 1) ∧ decode code (p0 + 17) = .ok (.ldc2_w 136, 3) ∧ decode code (p0 + 20) = .ok (.land, 1) ∧ decode code (p0 + 21) = .ok (.lor, 1))
section
variable {p : Program} {l : Launch} {e : Env} {s : State} {m : MethodId} {below : List Frame} {meth : Method} {c : Code} {D : va_G} {cA : FieldType → ClassId} {adC adR : Nat → Nat} {q3 b L : Nat} {cL : ClassId} {xs : Nat → Int32} {H : Heap} {locs : List Loc} {cells slots : Nat} {Q : State → Prop} {ls : Array Slot} {M : Sto} {Ls : List (List Cl)} {i : Nat}
theorem lw_seedv {rest : List Value} {p0 : Nat} (A0' : lw_At p s m meth c b L xs) (hL : L ≤ 3072) (hl : lv_has ls 7 (lcs b adC adR q3 i)) (hS : va_S (A0 s) s.heap H locs) (hi : i + 6 ≤ L) (hr : rowS p0) (kk : W p l e room_1 s m #[Value.ref b] below meth c H locs cells slots Q (F0 m (p0 + 22) ls (.long (sdV (xs (i + 1)) (xs (i + 2))) :: rest))) : W p l e room_1 s m #[Value.ref b] below meth c H locs cells slots Q (F0 m p0 ls rest) := by
  obtain ⟨⟨r1, r2, r3, r4, r5⟩, ⟨r6, r7, r8⟩, ⟨s1, s2, s3, s4, s5⟩, s6, s7, s8, s9⟩ := hr
  obtain ⟨hx, hb, -, -, hown, hts, hX, hbl, -⟩ := A0'
  refine lv_aload_n hx hb r1 rfl (lv_at hl 4 rfl) ?_
  refine lv_iload hx hb r2 (lv_at hl 0 rfl) ?_
  refine lv_iconst hx hb r3 (ld_ic 0 (by omega)) ?_
  refine lv_iadd hx hb r4 ?_
  rw [nI_add]
  refine va_sld hx hb hX hbl (fun h => absurd h (Nat.not_le.mpr hbl)) hS (vp_in_nI (by omega) (by omega)) r5 ?_
  rw [nI_clamp (by omega)]
  refine lv_i2l hx hb r6 rfl ?_
  refine lv_bipush (v := 32) hx hb r7 (by decide) ?_
  refine lv_lshl hx hb r8 rfl ?_
  refine lv_aload_n hx hb s1 rfl (lv_at hl 4 rfl) ?_
  refine lv_iload hx hb s2 (lv_at hl 0 rfl) ?_
  refine lv_iconst hx hb s3 (ld_ic 1 (by omega)) ?_
  refine lv_iadd hx hb s4 ?_
  rw [nI_add]
  refine va_sld hx hb hX hbl (fun h => absurd h (Nat.not_le.mpr hbl)) hS (vp_in_nI (by omega) (by omega)) s5 ?_
  rw [nI_clamp (by omega)]
  refine lv_i2l hx hb s6 rfl ?_
  refine lv_ldc2 (own := RL) (v := 4294967295) hx hb hown (hts _ (List.mem_filter.mp (gw_8 (i := 162) rfl rfl)).1) s7 ?_
  refine lv_land hx hb s8 ?_
  exact lv_lor hx hb s9 kk
theorem rs_1142 : rowS 1142 := ⟨⟨dL_law_1142, dL_law_1143, dL_law_1145, dL_law_1146, dL_law_1147⟩, ⟨dL_law_1148, dL_law_1149, dL_law_1151⟩, ⟨dL_law_1152, dL_law_1153, dL_law_1155, dL_law_1156, dL_law_1157⟩, dL_law_1158, dL_law_1159, dL_law_1162, dL_law_1163⟩
theorem rs_1168 : rowS 1168 := ⟨⟨dL_law_1168, dL_law_1169, dL_law_1171, dL_law_1172, dL_law_1173⟩, ⟨dL_law_1174, dL_law_1175, dL_law_1177⟩, ⟨dL_law_1178, dL_law_1179, dL_law_1181, dL_law_1182, dL_law_1183⟩, dL_law_1184, dL_law_1185, dL_law_1188, dL_law_1189⟩
theorem lc_seed (F : LF p s m meth c b L xs D cA cL adC adR q3) (hl : lv_has ls 7 (lcs b adC adR q3 i)) (hi : i + 6 ≤ L) (w : WI s D cA cL adC adR q3 H locs M Ls) (hce : cells ≤ room_1.cells) (hsl : slots ≤ room_1.slots)
    (kk : ∀ H1 locs1 M1 Ls1, WI s D cA cL adC adR q3 H1 locs1 M1 Ls1 → W p l e room_1 s m #[Value.ref b] below meth c H1 locs1 cells slots Q (F0 m 1507 ls [])) : W p l e room_1 s m #[Value.ref b] below meth c H locs cells slots Q (F0 m 1141 ls []) := by
  obtain ⟨F0', hL, hK, -, ⟨hXC, hXR⟩, ⟨iCj, iRj⟩, ⟨gC, gR, g3⟩, apA, ap3, ap4⟩ := F
  obtain ⟨t, σC, σR, v, pC, pR, p3, oC, oR, rC, rR, hS⟩ := w
  have F1 := F0'
  obtain ⟨hx, hb, -, hml, hown, hts, hX, hbl, -, -⟩ := F0'
  have hts' : ∀ w ∈ gwT, w.before #[Value.ref b] s = true := fun w hw => hts w (List.mem_filter.mp hw).1
  obtain ⟨V, hV⟩ : ∃ V, V = sdV (xs (i + 1)) (xs (i + 2)) := ⟨_, rfl⟩
  have hcv : ∀ ad : Nat → Nat, cV ad (.inr (.inl V.toInt)) = .long V := fun ad => by show Value.long (Int64.ofInt V.toInt) = _; rw [Int64.ofInt_toInt]
  have hok : ∀ n : Nat, ∀ z ∈ ([.inr (.inl V.toInt)] : List AV), vOK n z := fun n z hz => by
    rw [List.mem_singleton] at hz
    subst hz
    exact ⟨Int64.le_toInt V, by have := Int64.toInt_lt V; show V.toInt ≤ 9223372036854775807; omega⟩
  refine lv_aload_n hx hb dL_law_1141 rfl (lv_at hl 3 rfl) ?_
  refine lw_seedv F1 hL hl hS hi rs_1142 ?_
  rw [← hV]
  refine W.eq (g2 := F0 m 1164 ls ((([.inr (.inl V.toInt)] : List AV).map (cV adC)).reverse ++ .ref (adC 0) :: [])) (by simp only [List.map_cons, List.map_nil, List.reverse_cons, List.reverse_nil, List.nil_append, List.cons_append, hcv]) ?_
  refine lw_call (sh := shC) (d := 60) (as := [.inr (.inl V.toInt)]) (rest := []) (Qx := fun r sh' σ' => r = none ∧ sh' = shC ∧ RepC σ' (up M 0 6 V.toInt) Ls) hx hb hml hown hts' kLX11_seed dL_law_1164 (C_seed rC (fun σ' r1 => ⟨rfl, rfl, r1⟩)) hl.1 (by rfl) (by decide) (by decide) (by decide) rfl (Nat.le_of_ble_eq_true rfl) (hok _) hK hXC (by rw [shC_len]; exact iCj) (by rw [shC_len]; exact gC) pC oC (by rw [shC_len]; decide) (by rw [shC_len]; decide) hS hce hsl (Nat.le_of_ble_eq_true rfl) (fun r sh' σ' h => by rw [h.2.1]) ?_
  rintro r sh' σC1 H1 locs1 ⟨rfl, rfl, rC1⟩ pC1 hz1 hk1 hS1 oC1 -
  have pR1 : va_P D vwCl (wl adR cA (shR t) σR) H1 := va_P_out pR (fun k q hq hlt => hk1 q.1 hlt (fun h => by
    obtain ⟨q1, q2⟩ := wl_fst hq
    rcases h with ⟨i1, h1, h2⟩ | h
    · exact apA i1 k h1 q1 (by rw [← h2, q2])
    · omega))
  have p31 : va_P D vwCl [(q3, .inl (cL, 1, .inr (.inl v)))] H1 := va_P_out p3 (fun k q hq hlt => hk1 q.1 hlt (fun h => by
    have hq' := List.mem_of_getElem? hq
    rw [List.mem_singleton] at hq'
    subst hq'
    rcases h with ⟨i1, h1, h2⟩ | h
    · exact ap3 i1 h1 h2.symm
    · omega))
  refine W.eq (g2 := F0 m 1167 ls []) rfl ?_
  refine lv_aload_n hx hb dL_law_1167 rfl (lv_at hl 2 rfl) ?_
  refine lw_seedv F1 hL hl hS1 hi rs_1168 ?_
  rw [← hV]
  refine W.eq (g2 := F0 m 1190 ls ((([.inr (.inl V.toInt)] : List AV).map (cV adR)).reverse ++ .ref (adR 0) :: [])) (by simp only [List.map_cons, List.map_nil, List.reverse_cons, List.reverse_nil, List.nil_append, List.cons_append, hcv]) ?_
  refine lw_call (sh := shR t) (d := 60) (as := [.inr (.inl V.toInt)]) (rest := []) (Qx := fun r sh' σ' => r = none ∧ sh' = shR t ∧ RepR t σ' (up M 0 6 V.toInt) Ls) hx hb hml hown hts' kLX12_seed dL_law_1190 (R_seed rR (fun σ' r1 => ⟨rfl, rfl, r1⟩)) hl.1 (by rfl) (by decide) (by decide) (by decide) rfl (Nat.le_of_ble_eq_true rfl) (hok _) hK hXR (by rw [shR_len]; exact iRj) (by rw [shR_len]; exact gR) pR1 oR (by rw [shR_len]; decide) (by rw [shR_len]; decide) hS1 hce hsl (Nat.le_of_ble_eq_true rfl) (fun r sh' σ' h => by rw [h.2.1]) ?_
  rintro r sh' σR1 H2 locs2 ⟨rfl, rfl, rR1⟩ pR2 hz2 hk2 hS2 oR2 -
  have pC2 : va_P D vwCl (wl adC cA shC σC1) H2 := va_P_out pC1 (fun k q hq hlt => hk2 q.1 hlt (fun h => by
    obtain ⟨q1, q2⟩ := wl_fst hq
    rcases h with ⟨i1, h1, h2⟩ | h
    · exact apA k i1 q1 h1 (by rw [← h2, q2])
    · omega))
  have p32 : va_P D vwCl [(q3, .inl (cL, 1, .inr (.inl v)))] H2 := va_P_out p31 (fun k q hq hlt => hk2 q.1 hlt (fun h => by
    have hq' := List.mem_of_getElem? hq
    rw [List.mem_singleton] at hq'
    subst hq'
    rcases h with ⟨i1, h1, h2⟩ | h
    · exact ap4 i1 h1 h2.symm
    · omega))
  refine W.eq (g2 := F0 m 1193 ls []) rfl ?_
  exact lv_goto (tgt := 1507) hx hb dL_law_1193 rfl (kk H2 locs2 _ _ ⟨t, σC1, σR1, v, pC2, pR2, p32, oC1, oR2, rC1, rR1, hS2⟩)
end
