theorem C_thrown {t : Nat} {σ : Sto} {d : Nat} {Q : Option AV → List Kd → Sto → Prop} (h : Q (some (.inl (σ 0 0))) (shR t) σ) : Ex d mX12_thrown 0 [some (.inr (.inr (some 0)))] [] (shR t) σ Q := by
  rw [sX12_thrown_0, sX12_thrown_1]
  refine ⟨rfl, ?_⟩
  rw [sX12_thrown_4]
  exact h
theorem lgc (x : Int64) : lg_cmp x x = 0 := by simp [lg_cmp]
section
variable {p : Program} {l : Launch} {e : Env} {s : State} {m : MethodId} {below : List Frame} {meth : Method} {c : Code} {D : va_G} {cA : FieldType → ClassId} {adC adR : Nat → Nat} {q3 b L : Nat} {cL : ClassId} {xs : Nat → Int32} {H : Heap} {locs : List Loc} {cells slots : Nat} {Q : State → Prop} {ls : Array Slot} {M : Sto} {Ls : List (List Cl)} {i : Nat}
set_option maxHeartbeats 4000000 in
set_option maxRecDepth 100000 in
theorem lc_personA {sa : Nat} {a z : Int} (hlf : l.stackTraces = false) (F : LF p s m meth c b L xs D cA cL adC adR q3) (hT : Th (A0 s) sa s s.heap) (hl : lv_has ls 7 (lcs b adC adR q3 i)) (hi : i + 6 ≤ L) (w : WI s D cA cL adC adR q3 H locs M Ls) (hce : cells + 1 ≤ room_1.cells) (hsl : slots + 6 ≤ room_1.slots)
    (hz : z = 0 ∨ z = 1) (hLP : ∀ (r : Int32) (v : Nat → Int64), ((gPerson M (xs (i + 1)).toInt (xs (i + 2)).toInt → r = 0 ∧ v 0 = (Int32.ofInt (aPerson M (xs (i + 1)).toInt (xs (i + 2)).toInt)).toInt64) ∧ (¬ gPerson M (xs (i + 1)).toInt (xs (i + 2)).toInt → r = 1)) → r = Int32.ofInt z ∧ (z = 0 → v 0 = (Int32.ofInt a).toInt64))
    (HR : ∀ t σ, sOK (shR t) σ → RepR t σ M Ls → Ex 60 mX12_person 0 (entL (eL mX12_person) (.inr (.inr (some 0)) :: ldX xs i 2)) [] (shR t) σ (fun r sh' σ' => r = some (.inl a) ∧ sh' = shR t ∧ RepR t σ' M Ls ∧ σ' 0 0 = z))
    (kk : ∀ H1 locs1 ls1, lv_has ls1 7 (lcs b adC adR q3 i) → WI s D cA cL adC adR q3 H1 locs1 M Ls → W p l e room_1 s m #[Value.ref b] below meth c H1 locs1 (cells + 1) (slots + 6) Q (F0 m 1507 ls1 [])) : W p l e room_1 s m #[Value.ref b] below meth c H locs cells slots Q (F0 m 356 ls []) := by
  have F2 := F
  obtain ⟨F0', hL, hK, hK3, ⟨hXC, hXR⟩, ⟨iCj, iRj⟩, ⟨gC, gR, g3⟩, apA, ap3, ap4⟩ := F
  obtain ⟨t, σC, σR, v, pC, pR, p3, oC, oR, rC, rR, hS⟩ := w
  have F1 := F0'
  obtain ⟨hx, hb, -, hml, hown, hts, hX, hbl, -, -⟩ := F0'
  have hts' : ∀ w ∈ gwT, w.before #[Value.ref b] s = true := fun w hw => hts w (List.mem_filter.mp hw).1
  have hr2 : rowA 357 2 := fun j hj => match j, hj with | 0, _ => ⟨dL_law_357, dL_law_358, dL_law_360, dL_law_361, dL_law_362⟩ | 1, _ => ⟨dL_law_363, dL_law_364, dL_law_366, dL_law_367, dL_law_368⟩ | (n + 2), h => absurd h (by omega)
  have hr5 : rowA 376 2 := fun j hj => match j, hj with | 0, _ => ⟨dL_law_376, dL_law_377, dL_law_379, dL_law_380, dL_law_381⟩ | 1, _ => ⟨dL_law_382, dL_law_383, dL_law_385, dL_law_386, dL_law_387⟩ | (n + 2), h => absurd h (by omega)
  refine lv_aload_n hx hb dL_law_356 rfl (lv_at hl 3 rfl) ?_
  refine lw_args (ad := adC) F1 hL hl hS hi (by decide) hr2 ?_
  refine W.eq (g2 := F0 m 369 ls [.int (Int32.ofInt (xs (i + 2)).toInt), .int (Int32.ofInt (xs (i + 1)).toInt), .ref (adC 0)]) rfl ?_
  refine lv_aload_n hx hb dL_law_369 rfl (lv_at hl 1 rfl) ?_
  have hsub : ∀ q, ((∃ k, k < 60 ∧ q = adC k) ∨ q = q3 ∨ H.size ≤ q) → A0 s q := fun q h => by
    rcases h with ⟨k, k1, rfl⟩ | rfl | h
    · exact gC k k1
    · exact g3
    · exact Nat.le_trans hS.1 h
  have hM := met_LP (l := l) hlf rC oC (xz xs (i + 1)) (xz xs (i + 2)) D cA cL (fun q => (∃ k, k < 60 ∧ q = adC k) ∨ q = q3 ∨ H.size ≤ q) adC q3 sa v
  have hws : ∀ w ∈ (cwP :: gwT), ∀ (a' : Array Value) (U : State), s.WarmedH U.vm → w.before a' U = true := fun w hw a' U hW => by
    have hg : w ∈ gwT := by
      rcases List.mem_cons.mp hw with rfl | h
      · exact cw_gw
      · exact h
    exact word_at hW (good_of_word (gw_good hg)) (hts' w hg)
  have run := vx_runSX (l := l) (e := e) (R := room_1) (below := below) (meth := meth) (H := H) (locs := locs) (cells := cells) (slots := slots) (hh := [(0, 10, 13, 13)]) (own := RL) (index := 38) (maxL := 5) (bytes := cL_person) (ret := some .int) (n := 4) (As := [.ref (adC 0), .int (Int32.ofInt (xs (i + 1)).toInt), .int (Int32.ofInt (xs (i + 2)).toInt), .ref q3]) (rest := []) (g := F0 m 370 ls [.ref q3, .int (Int32.ofInt (xs (i + 2)).toInt), .int (Int32.ofInt (xs (i + 1)).toInt), .ref (adC 0)]) (Ts := gwT) ⟨hx, hb, hml, hown, hts'⟩ hM
    ⟨⟨rfl, rfl, by decide, by decide, hws, List.mem_cons_self⟩, hts' _ cw_gw, hts' _ (gw_1 (i := 0) rfl rfl), by decide, fun sig h => by
      have h2 : (parseMethodDescriptor yL_person.desc).map (fun d => d.parameters.length) = some 4 := by decide +kernel
      rw [h] at h2
      exact (Option.some.inj h2).symm, hts' _ (gw_5 (i := 143) rfl rfl), hts' _ (gw_5 (i := 144) rfl rfl)⟩
    ⟨PL_blind, fun U hU hW => ⟨rfl, by rw [hU]; exact pC, by rw [hU]; exact p3, ⟨va_K.moved hW.alike hK, va_K.moved hW.alike hK3⟩, iCj, fun k hk => Or.inl ⟨k, hk, rfl⟩, Or.inr (Or.inl rfl), ap3, fun q hq => Or.inr (Or.inr (by rw [hU] at hq; exact hq)), Xt_nar (Xt_kept hXC hW (fun a h1 h2 => by rw [hU]; exact hS.2.1 a h1 h2)) hsub, Th.narrow (Th.kept hT hW (fun a h1 h2 => by rw [hU]; exact hS.2.1 a h1 h2)) hsub⟩⟩
    rfl rfl hl.1 rfl (lv_room (Nat.le_of_ble_eq_true rfl)) dL_law_370 ⟨hce, hsl⟩
  refine vx_calli run hS (fun q _ h => hsub q h) hsub (fun q _ h => hsub q h) (fun _ _ _ _ _ _ _ _ _ h => h.elim) ?_
  intro r v1 t1 H1 locs1 ht1 hvm hpost hB hz1 hk1 hS1
  obtain ⟨pC1, p31⟩ := hB
  rw [ht1] at pC1 p31
  obtain ⟨rfl, hv1⟩ := hLP r v1 hpost
  have pR1 : va_P D vwCl (wl adR cA (shR t) σR) H1 := va_P_out pR (fun k q hq hlt => hk1 q.1 hlt (fun h => by
    obtain ⟨q1, q2⟩ := wl_fst hq
    rcases h with ⟨i1, h1, h2⟩ | h | h
    · exact apA i1 k h1 q1 (by rw [← h2, q2])
    · exact ap4 k q1 (by rw [← q2, h])
    · omega))
  refine lv_istore (nL := 7) hx hb dL_law_373 hl (by decide) rfl (fun ls1 hl1 => ?_)
  have hl1a : lv_has ls1 7 (lcs b adC adR q3 i) := lv_sub hl1 [1, 2, 3, 4, 5] rfl
  refine lv_aload_n hx hb dL_law_375 rfl (lv_at hl1a 2 rfl) ?_
  refine lw_args (ad := adR) F1 hL hl1a hS1 hi (by decide) hr5 ?_
  have has2 : ∀ v ∈ ldX xs i 2, vOK (shR t).length v := ldX_ok
  refine lw_call (sh := shR t) (d := 60) (rest := []) hx hb hml hown hts' kLX12_person dL_law_388 (HR t σR oR rR) hl1.1 (by rfl) (by decide) (by decide) (by decide) rfl (Nat.le_of_ble_eq_true rfl) has2 hK hXR (by rw [shR_len]; exact iRj) (by rw [shR_len]; exact gR) pR1 oR (by rw [shR_len]; decide) (by rw [shR_len]; decide) hS1 (by omega) (by omega) (Nat.le_of_ble_eq_true rfl) (fun r sh' σ' h => by rw [h.2.1]) ?_
  rintro r2 sh2 σR1 H2 locs2 ⟨rfl, rfl, rR1, hthr⟩ pR2 hz2 hk2 hS2 oR2 -
  have pC2 : va_P D vwCl (wl adC cA shC σC) H2 := va_P_out pC1 (fun k q hq hlt => hk2 q.1 hlt (fun h => by
    obtain ⟨q1, q2⟩ := wl_fst hq
    rcases h with ⟨i1, h1, h2⟩ | h
    · exact apA k i1 q1 h1 (by rw [← h2, q2])
    · omega))
  have p32 : va_P D vwCl [(q3, .inl (cL, 1, .inr (.inl v1)))] H2 := va_P_out p31 (fun k q hq hlt => hk2 q.1 hlt (fun h => by
    have hq' := List.mem_of_getElem? hq
    rw [List.mem_singleton] at hq'
    subst hq'
    rcases h with ⟨i1, h1, h2⟩ | h
    · exact ap4 i1 h1 h2.symm
    · omega))
  refine W.eq (g2 := F0 m 391 ls1 [.int (Int32.ofInt a)]) rfl ?_
  refine lv_istore (nL := 7) hx hb dL_law_391 hl1 (by decide) rfl (fun ls2 hl2 => ?_)
  have hl2a : lv_has ls2 7 (lcs b adC adR q3 i) := lv_sub hl2 [2, 3, 4, 5, 6] rfl
  refine lv_aload_n hx hb dL_law_393 rfl (lv_at hl2a 2 rfl) ?_
  refine lw_call (sh := shR t) (d := 60) (as := []) (rest := []) (Qx := fun r sh' σ' => r = some (.inl z) ∧ sh' = shR t ∧ σ' = σR1) hx hb hml hown hts' kLX12_thrown dL_law_394 (C_thrown ⟨by rw [hthr], rfl, rfl⟩) hl2.1 (by rfl) (by decide) (by decide) (by decide) rfl (by decide) (fun v hv => by cases hv) hK hXR (by rw [shR_len]; exact iRj) (by rw [shR_len]; exact gR) pR2 oR2 (by rw [shR_len]; decide) (by rw [shR_len]; decide) hS2 (by omega) (by omega) (Nat.le_of_ble_eq_true rfl) (fun r sh' σ' h => by rw [h.2.1]) ?_
  rintro r3 sh3 σR2 H3 locs3 ⟨rfl, rfl, rfl⟩ pR3 hz3 hk3 hS3 oR3 -
  have pC3 : va_P D vwCl (wl adC cA shC σC) H3 := va_P_out pC2 (fun k q hq hlt => hk3 q.1 hlt (fun h => by
    obtain ⟨q1, q2⟩ := wl_fst hq
    rcases h with ⟨i1, h1, h2⟩ | h
    · exact apA k i1 q1 h1 (by rw [← h2, q2])
    · omega))
  have p33 : va_P D vwCl [(q3, .inl (cL, 1, .inr (.inl v1)))] H3 := va_P_out p32 (fun k q hq hlt => hk3 q.1 hlt (fun h => by
    have hq' := List.mem_of_getElem? hq
    rw [List.mem_singleton] at hq'
    subst hq'
    rcases h with ⟨i1, h1, h2⟩ | h
    · exact ap4 i1 h1 h2.symm
    · omega))
  have K := kk H3 locs3 ls2 hl2a ⟨t, σC, σR2, v1, pC3, pR3, p33, oC, oR3, rC, rR1, hS3⟩
  refine W.eq (g2 := F0 m 397 ls2 [.int (Int32.ofInt z)]) rfl ?_
  refine lv_iload hx hb dL_law_397 (lv_at hl2 1 rfl) ?_
  refine lv_icmp_eq (tgt := 404) hx hb dL_law_399 rfl (fun _ => ?_) (fun h => absurd rfl h)
  refine lv_iload hx hb dL_law_404 (lv_at hl2 1 rfl) ?_
  refine lv_if_ne (tgt := 421) hx hb dL_law_406 rfl (fun _ => lv_goto (tgt := 1507) hx hb dL_law_421 rfl K) (fun h => ?_)
  have hz0 : z = 0 := by
    rcases hz with h0 | h0
    · exact h0
    · rw [h0] at h
      exact absurd h (by decide)
  refine lv_aload_n hx hb dL_law_409 rfl (lv_at hl2a 1 rfl) ?_
  refine lv_iconst (v := 0) hx hb dL_law_410 (by decide) ?_
  refine va_lald (tys := [(cL, .long)]) (cA := cL) (n := 1) (f := v1) (ws := [(q3, .inl (cL, 1, .inr (.inl v1)))]) hx hb hK3 p33 0 0 rfl rfl (by unfold vp_in; decide) dL_law_411 ?_
  refine lv_iload hx hb dL_law_412 (lv_at hl2 0 rfl) ?_
  refine lv_i2l hx hb dL_law_414 rfl ?_
  refine W.lcmp hx hb dL_law_415 ?_
  refine lv_if_eq (tgt := 421) hx hb dL_law_416 rfl (fun _ => lv_goto (tgt := 1507) hx hb dL_law_421 rfl K) (fun h => absurd ?_ h)
  rw [show v1 (0 : Int32).toNatClampNeg = (Int32.ofInt a).toInt64 from hv1 hz0]
  exact lgc _
theorem lc_person {sa : Nat} (hlf : l.stackTraces = false) (F : LF p s m meth c b L xs D cA cL adC adR q3) (hT : Th (A0 s) sa s s.heap) (hl : lv_has ls 7 (lcs b adC adR q3 i)) (hi : i + 6 ≤ L) (w : WI s D cA cL adC adR q3 H locs M Ls) (hce : cells + 1 ≤ room_1.cells) (hsl : slots + 6 ≤ room_1.slots)
    (kk : ∀ H1 locs1 ls1 M1 Ls1, lv_has ls1 7 (lcs b adC adR q3 i) → WI s D cA cL adC adR q3 H1 locs1 M1 Ls1 → W p l e room_1 s m #[Value.ref b] below meth c H1 locs1 (cells + 1) (slots + 6) Q (F0 m 1507 ls1 [])) : W p l e room_1 s m #[Value.ref b] below meth c H locs cells slots Q (F0 m 356 ls []) := by
  by_cases g : gPerson M (xs (i + 1)).toInt (xs (i + 2)).toInt
  · exact lc_personA (a := aPerson M (xs (i + 1)).toInt (xs (i + 2)).toInt) (z := 0) hlf F hT hl hi w hce hsl (Or.inl rfl) (fun r v h => ⟨(h.1 g).1, fun _ => (h.1 g).2⟩) (fun t σ o r => R_person (by decide) r (fun _ σ' r1 h => ⟨rfl, rfl, r1, h⟩) (fun h => absurd g h)) (fun H1 locs1 ls1 h1 h2 => kk H1 locs1 ls1 _ _ h1 h2)
  · exact lc_personA (a := 0) (z := 1) hlf F hT hl hi w hce hsl (Or.inr rfl) (fun r v h => ⟨h.2 g, fun h0 => by cases h0⟩) (fun t σ o r => R_person (by decide) r (fun h => absurd h g) (fun _ σ' r1 h => ⟨rfl, rfl, r1, h⟩)) (fun H1 locs1 ls1 h1 h2 => kk H1 locs1 ls1 _ _ h1 h2)
end
