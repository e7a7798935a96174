section
variable {p : Program} {l : Launch} {e : Env} {s : State} {m : MethodId} {below : List Frame} {meth : Method} {c : Code} {D : va_G} {cA : FieldType → ClassId} {adC adR : Nat → Nat} {q3 b L : Nat} {cL : ClassId} {xs : Nat → Int32} {H : Heap} {locs : List Loc} {ls : Array Slot} {M : Sto} {Ls : List (List Cl)} {cells slots i : Nat}
theorem lw_cmp {L i : Nat} (hL : L ≤ 3072) (hi : i ≤ L) : (Int32.ofNat L - 6 < nI i) ↔ L < i + 6 := by
  rw [Int32.lt_iff_toInt_lt, Int32.toInt_sub, show (Int32.ofNat L).toInt = (L : Int) from nI_toInt (n := L) (by omega), nI_toInt (n := i) (by omega)]
  have h6 : (6 : Int32).toInt = 6 := by decide
  have hw := w32_of (n := (L : Int) - 6) ⟨by omega, by omega⟩
  unfold w32 at hw
  rw [h6]
  rw [show ((L : Int) - 6).bmod (2 ^ 32) = (L : Int) - 6 from hw]
  omega
theorem lw_head (F : LF p s m meth c b L xs D cA cL adC adR q3) (hl : lv_has ls 7 (lcs b adC adR q3 i)) (w : WI s D cA cL adC adR q3 H locs M Ls) (hi : i ≤ L) (hc1 : cells ≤ 601024) (hs1 : slots ≤ 7293034)
    (kk : i + 6 ≤ L → W p l e room_1 s m #[Value.ref b] below meth c H locs cells slots (lw_Z below #[Value.ref b] s) (F0 m 33 ls [])) : W p l e room_1 s m #[Value.ref b] below meth c H locs cells slots (lw_Z below #[Value.ref b] s) (F0 m 23 ls []) := by
  have hL := F.2.1
  obtain ⟨hx, hb, hr, hml, hown, hts, hX, hbl, hlk, -⟩ := F.1
  obtain ⟨t, σC, σR, v, pC, pR, p3, oC, oR, rC, rR, hS⟩ := w
  refine lv_iload hx hb dL_law_23 (lv_at hl 0 rfl) ?_
  refine lv_aload_n hx hb dL_law_25 rfl (lv_at hl 4 rfl) ?_
  refine va_slen hx hb hX hbl (fun h => absurd h (Nat.not_le.mpr hbl)) hS dL_law_26 ?_
  refine lv_bipush (v := 6) hx hb dL_law_27 (by decide) ?_
  refine lv_isub hx hb dL_law_29 ?_
  refine lv_icmp_gt (tgt := 1513) hx hb dL_law_30 rfl (fun _ => ?_) (fun h => ?_)
  · refine va_forget (fun q hq => hS.2.2 q hq) ?_
    refine W.widen (k := 601024) (n := 7293034) hc1 hs1 ?_
    refine lv_iconst (v := 1) hx hb dL_law_1513 (by decide) ?_
    exact lw_ret hx hb hr hlk dL_law_1514
  · exact kk (by rw [lw_cmp hL hi] at h; omega)
end
section
variable {p : Program} {l : Launch} {e : Env} {s : State} {m : MethodId} {below : List Frame} {meth : Method} {c : Code} {D : va_G} {cA : FieldType → ClassId} {adC adR : Nat → Nat} {q3 b L : Nat} {cL : ClassId} {xs : Nat → Int32}
set_option maxHeartbeats 8000000 in
set_option maxRecDepth 100000 in
theorem lw_loop {sa : Nat} (hlf : l.stackTraces = false) (F : LF p s m meth c b L xs D cA cL adC adR q3) (hT : Th (A0 s) sa s s.heap) : ∀ (n i : Nat) (H : Heap) (locs : List Loc) (ls : Array Slot) (M : Sto) (Ls : List (List Cl)) (cells slots : Nat), L ≤ i + 6 * n + 5 → i ≤ L → lv_has ls 7 (lcs b adC adR q3 i) → WI s D cA cL adC adR q3 H locs M Ls → cells + n ≤ 601024 → slots + 6 * n ≤ 7293034 →
    W p l e room_1 s m #[Value.ref b] below meth c H locs cells slots (lw_Z below #[Value.ref b] s) (F0 m 23 ls []) := by
  intro n
  induction n with
  | zero =>
    intro i H locs ls M Ls cells slots hn hiL hl w hc1 hs1
    exact lw_head F hl w hiL (by omega) (by omega) (fun h => by omega)
  | succ n ih =>
    intro i H locs ls M Ls cells slots hn hiL hl w hc1 hs1
    refine lw_head F hl w hiL (by omega) (by omega) (fun hi => ?_)
    have hL := F.2.1
    obtain ⟨hx, hb, -, hml, hown, hts, hX, hbl, -, -⟩ := F.1
    have hce : cells ≤ room_1.cells := by show cells ≤ 601024; omega
    have hsl : slots ≤ room_1.slots := by show slots ≤ 7293034; omega
    have next : ∀ (H1 : Heap) (locs1 : List Loc) (ls1 : Array Slot) (M1 : Sto) (Ls1 : List (List Cl)) (cells1 slots1 : Nat), lv_has ls1 7 (lcs b adC adR q3 i) → WI s D cA cL adC adR q3 H1 locs1 M1 Ls1 → cells1 ≤ cells + 1 → slots1 ≤ slots + 6 → W p l e room_1 s m #[Value.ref b] below meth c H1 locs1 cells1 slots1 (lw_Z below #[Value.ref b] s) (F0 m 1507 ls1 []) := by
      intro H1 locs1 ls1 M1 Ls1 cells1 slots1 hl1 w1 hc2 hs2
      refine lv_iinc (nL := 7) (k := 0) (x := nI i) (v := nI (i + 6)) hx hb dL_law_1507 hl1 rfl (by rw [← nI_add]; rfl) (by decide) rfl (fun ls2 hl2 => ?_)
      refine lv_goto (tgt := 23) hx hb dL_law_1510 rfl ?_
      exact ih (i + 6) H1 locs1 ls2 M1 Ls1 cells1 slots1 (by omega) (by omega) hl2 w1 (by omega) (by omega)
    obtain ⟨t, σC, σR, v, pC, pR, p3, oC, oR, rC, rR, hS⟩ := id w
    refine lv_aload_n hx hb dL_law_33 rfl (lv_at hl 4 rfl) ?_
    refine lv_iload hx hb dL_law_34 (lv_at hl 0 rfl) ?_
    refine va_sld hx hb hX hbl (fun h => absurd h (Nat.not_le.mpr hbl)) hS (vp_in_nI (by omega) (by omega)) dL_law_36 ?_
    refine lv_bipush (v := 63) hx hb dL_law_37 (by decide) ?_
    refine lv_iand hx hb dL_law_39 ?_
    refine lv_topi (fun x _ => ?_)
    by_cases hin : 0 ≤ x.toInt ∧ x.toInt ≤ 37
    · obtain ⟨k, hk, hk38⟩ : ∃ k : Nat, x.toInt = (k : Int) ∧ k < 38 := ⟨x.toInt.toNat, by omega, by omega⟩
      match k, hk38 with
      | 0, _ =>
        refine lv_tableIn (tgt := 208) hx hb dL_law_40 (by rw [hk]; decide) (by rw [hk]; decide) (by rw [hk]; rfl) rfl ?_
        exact lc_feed F hl hi w hce hsl (fun H1 locs1 M1 Ls1 h2 => next H1 locs1 ls M1 Ls1 _ _ hl h2 (by omega) (by omega))
      | 1, _ =>
        refine lv_tableIn (tgt := 281) hx hb dL_law_40 (by rw [hk]; decide) (by rw [hk]; decide) (by rw [hk]; rfl) rfl ?_
        exact lc_end F hl hi w hce hsl (fun H1 locs1 M1 Ls1 h2 => next H1 locs1 ls M1 Ls1 _ _ hl h2 (by omega) (by omega))
      | 2, _ =>
        refine lv_tableIn (tgt := 306) hx hb dL_law_40 (by rw [hk]; decide) (by rw [hk]; decide) (by rw [hk]; rfl) rfl ?_
        exact lc_fault F hl hi w hce hsl (fun H1 locs1 M1 Ls1 h2 => next H1 locs1 ls M1 Ls1 _ _ hl h2 (by omega) (by omega))
      | 3, _ =>
        refine lv_tableIn (tgt := 331) hx hb dL_law_40 (by rw [hk]; decide) (by rw [hk]; decide) (by rw [hk]; rfl) rfl ?_
        exact lc_text F hl hi w hce hsl (fun H1 locs1 M1 Ls1 h2 => next H1 locs1 ls M1 Ls1 _ _ hl h2 (by omega) (by omega))
      | 4, _ =>
        refine lv_tableIn (tgt := 356) hx hb dL_law_40 (by rw [hk]; decide) (by rw [hk]; decide) (by rw [hk]; rfl) rfl ?_
        exact lc_person hlf F hT hl hi w (by show cells + 1 ≤ 601024; omega) (by show slots + 6 ≤ 7293034; omega) (fun H1 locs1 ls1 M1 Ls1 h1 h2 => next H1 locs1 ls1 M1 Ls1 _ _ h1 h2 (Nat.le_refl _) (Nat.le_refl _))
      | 5, _ =>
        refine lv_tableIn (tgt := 424) hx hb dL_law_40 (by rw [hk]; decide) (by rw [hk]; decide) (by rw [hk]; rfl) rfl ?_
        exact lc_house F hl hi w hce hsl (fun H1 locs1 M1 Ls1 h2 => next H1 locs1 ls M1 Ls1 _ _ hl h2 (by omega) (by omega))
      | 6, _ =>
        refine lv_tableIn (tgt := 461) hx hb dL_law_40 (by rw [hk]; decide) (by rw [hk]; decide) (by rw [hk]; rfl) rfl ?_
        exact lc_law F hl hi w hce hsl (fun H1 locs1 M1 Ls1 h2 => next H1 locs1 ls M1 Ls1 _ _ hl h2 (by omega) (by omega))
      | 7, _ =>
        refine lv_tableIn (tgt := 486) hx hb dL_law_40 (by rw [hk]; decide) (by rw [hk]; decide) (by rw [hk]; rfl) rfl ?_
        exact lc_today F hl hi w hce hsl (fun H1 locs1 M1 Ls1 h2 => next H1 locs1 ls M1 Ls1 _ _ hl h2 (by omega) (by omega))
      | 8, _ =>
        refine lv_tableIn (tgt := 511) hx hb dL_law_40 (by rw [hk]; decide) (by rw [hk]; decide) (by rw [hk]; rfl) rfl ?_
        exact lc_clash F hl hi w hce hsl (fun H1 locs1 M1 Ls1 h2 => next H1 locs1 ls M1 Ls1 _ _ hl h2 (by omega) (by omega))
      | 9, _ =>
        refine lv_tableIn (tgt := 560) hx hb dL_law_40 (by rw [hk]; decide) (by rw [hk]; decide) (by rw [hk]; rfl) rfl ?_
        exact lc_clashes F hl hi w hce hsl (fun H1 locs1 M1 Ls1 h2 => next H1 locs1 ls M1 Ls1 _ _ hl h2 (by omega) (by omega))
      | 10, _ =>
        refine lv_tableIn (tgt := 621) hx hb dL_law_40 (by rw [hk]; decide) (by rw [hk]; decide) (by rw [hk]; rfl) rfl ?_
        exact lc_move F hl hi w hce hsl (fun H1 locs1 M1 Ls1 h2 => next H1 locs1 ls M1 Ls1 _ _ hl h2 (by omega) (by omega))
      | 11, _ =>
        refine lv_tableIn (tgt := 658) hx hb dL_law_40 (by rw [hk]; decide) (by rw [hk]; decide) (by rw [hk]; rfl) rfl ?_
        exact lc_judge F hl hi w hce hsl (fun H1 locs1 M1 Ls1 h2 => next H1 locs1 ls M1 Ls1 _ _ hl h2 (by omega) (by omega))
      | 12, _ =>
        refine lv_tableIn (tgt := 695) hx hb dL_law_40 (by rw [hk]; decide) (by rw [hk]; decide) (by rw [hk]; rfl) rfl ?_
        exact lc_worst F hl hi w hce hsl (fun H1 locs1 M1 Ls1 h2 => next H1 locs1 ls M1 Ls1 _ _ hl h2 (by omega) (by omega))
      | 13, _ =>
        refine lv_tableIn (tgt := 720) hx hb dL_law_40 (by rw [hk]; decide) (by rw [hk]; decide) (by rw [hk]; rfl) rfl ?_
        exact lc_fewest F hl hi w hce hsl (fun H1 locs1 M1 Ls1 h2 => next H1 locs1 ls M1 Ls1 _ _ hl h2 (by omega) (by omega))
      | 14, _ =>
        refine lv_tableIn (tgt := 757) hx hb dL_law_40 (by rw [hk]; decide) (by rw [hk]; decide) (by rw [hk]; rfl) rfl ?_
        exact lc_lasts F hl hi w hce hsl (fun H1 locs1 M1 Ls1 h2 => next H1 locs1 ls M1 Ls1 _ _ hl h2 (by omega) (by omega))
      | 15, _ =>
        refine lv_tableIn (tgt := 782) hx hb dL_law_40 (by rw [hk]; decide) (by rw [hk]; decide) (by rw [hk]; rfl) rfl ?_
        exact lc_bars F hl hi w hce hsl (fun H1 locs1 M1 Ls1 h2 => next H1 locs1 ls M1 Ls1 _ _ hl h2 (by omega) (by omega))
      | 16, _ =>
        refine lv_tableIn (tgt := 807) hx hb dL_law_40 (by rw [hk]; decide) (by rw [hk]; decide) (by rw [hk]; rfl) rfl ?_
        exact lc_moves F hl hi w hce hsl (fun H1 locs1 M1 Ls1 h2 => next H1 locs1 ls M1 Ls1 _ _ hl h2 (by omega) (by omega))
      | 17, _ =>
        refine lv_tableIn (tgt := 832) hx hb dL_law_40 (by rw [hk]; decide) (by rw [hk]; decide) (by rw [hk]; rfl) rfl ?_
        exact lc_night F hl hi w hce hsl (fun H1 locs1 M1 Ls1 h2 => next H1 locs1 ls M1 Ls1 _ _ hl h2 (by omega) (by omega))
      | 18, _ =>
        refine lv_tableIn (tgt := 869) hx hb dL_law_40 (by rw [hk]; decide) (by rw [hk]; decide) (by rw [hk]; rfl) rfl ?_
        exact lc_lodger F hl hi w hce hsl (fun H1 locs1 M1 Ls1 h2 => next H1 locs1 ls M1 Ls1 _ _ hl h2 (by omega) (by omega))
      | 19, _ =>
        refine lv_tableIn (tgt := 930) hx hb dL_law_40 (by rw [hk]; decide) (by rw [hk]; decide) (by rw [hk]; rfl) rfl ?_
        exact lc_say F hl hi w hce hsl (fun H1 locs1 M1 Ls1 h2 => next H1 locs1 ls M1 Ls1 _ _ hl h2 (by omega) (by omega))
      | 20, _ =>
        refine lv_tableIn (tgt := 967) hx hb dL_law_40 (by rw [hk]; decide) (by rw [hk]; decide) (by rw [hk]; rfl) rfl ?_
        exact lc_known F hl hi w hce hsl (fun H1 locs1 M1 Ls1 h2 => next H1 locs1 ls M1 Ls1 _ _ hl h2 (by omega) (by omega))
      | 21, _ =>
        refine lv_tableIn (tgt := 1004) hx hb dL_law_40 (by rw [hk]; decide) (by rw [hk]; decide) (by rw [hk]; rfl) rfl ?_
        exact lc_worth F hl hi w hce hsl (fun H1 locs1 M1 Ls1 h2 => next H1 locs1 ls M1 Ls1 _ _ hl h2 (by omega) (by omega))
      | 22, _ =>
        refine lv_tableIn (tgt := 1053) hx hb dL_law_40 (by rw [hk]; decide) (by rw [hk]; decide) (by rw [hk]; rfl) rfl ?_
        exact lc_rather F hl hi w hce hsl (fun H1 locs1 M1 Ls1 h2 => next H1 locs1 ls M1 Ls1 _ _ hl h2 (by omega) (by omega))
      | 23, _ =>
        refine lv_tableIn (tgt := 1078) hx hb dL_law_40 (by rw [hk]; decide) (by rw [hk]; decide) (by rw [hk]; rfl) rfl ?_
        exact lc_turn F hl hi w hce hsl (fun H1 locs1 M1 Ls1 h2 => next H1 locs1 ls M1 Ls1 _ _ hl h2 (by omega) (by omega))
      | 24, _ =>
        refine lv_tableIn (tgt := 1091) hx hb dL_law_40 (by rw [hk]; decide) (by rw [hk]; decide) (by rw [hk]; rfl) rfl ?_
        exact lc_best F hl hi w hce hsl (fun H1 locs1 M1 Ls1 h2 => next H1 locs1 ls M1 Ls1 _ _ hl h2 (by omega) (by omega))
      | 25, _ =>
        refine lv_tableIn (tgt := 1116) hx hb dL_law_40 (by rw [hk]; decide) (by rw [hk]; decide) (by rw [hk]; rfl) rfl ?_
        exact lc_risk F hl hi w hce hsl (fun H1 locs1 M1 Ls1 h2 => next H1 locs1 ls M1 Ls1 _ _ hl h2 (by omega) (by omega))
      | 26, _ =>
        refine lv_tableIn (tgt := 1141) hx hb dL_law_40 (by rw [hk]; decide) (by rw [hk]; decide) (by rw [hk]; rfl) rfl ?_
        exact lc_seed F hl hi w hce hsl (fun H1 locs1 M1 Ls1 h2 => next H1 locs1 ls M1 Ls1 _ _ hl h2 (by omega) (by omega))
      | 27, _ =>
        refine lv_tableIn (tgt := 1196) hx hb dL_law_40 (by rw [hk]; decide) (by rw [hk]; decide) (by rw [hk]; rfl) rfl ?_
        exact lc_days F hl hi w hce hsl (fun H1 locs1 M1 Ls1 h2 => next H1 locs1 ls M1 Ls1 _ _ hl h2 (by omega) (by omega))
      | 28, _ =>
        refine lv_tableIn (tgt := 1221) hx hb dL_law_40 (by rw [hk]; decide) (by rw [hk]; decide) (by rw [hk]; rfl) rfl ?_
        exact lc_free F hl hi w hce hsl (fun H1 locs1 M1 Ls1 h2 => next H1 locs1 ls M1 Ls1 _ _ hl h2 (by omega) (by omega))
      | 29, _ =>
        refine lv_tableIn (tgt := 1258) hx hb dL_law_40 (by rw [hk]; decide) (by rw [hk]; decide) (by rw [hk]; rfl) rfl ?_
        exact lc_till F hl hi w hce hsl (fun H1 locs1 M1 Ls1 h2 => next H1 locs1 ls M1 Ls1 _ _ hl h2 (by omega) (by omega))
      | 30, _ =>
        refine lv_tableIn (tgt := 1283) hx hb dL_law_40 (by rw [hk]; decide) (by rw [hk]; decide) (by rw [hk]; rfl) rfl ?_
        exact lc_swap F hl hi w hce hsl (fun H1 locs1 M1 Ls1 h2 => next H1 locs1 ls M1 Ls1 _ _ hl h2 (by omega) (by omega))
      | 31, _ =>
        refine lv_tableIn (tgt := 1308) hx hb dL_law_40 (by rw [hk]; decide) (by rw [hk]; decide) (by rw [hk]; rfl) rfl ?_
        exact lc_peak F hl hi w hce hsl (fun H1 locs1 M1 Ls1 h2 => next H1 locs1 ls M1 Ls1 _ _ hl h2 (by omega) (by omega))
      | 32, _ =>
        refine lv_tableIn (tgt := 1345) hx hb dL_law_40 (by rw [hk]; decide) (by rw [hk]; decide) (by rw [hk]; rfl) rfl ?_
        exact lc_wants F hl hi w hce hsl (fun H1 locs1 M1 Ls1 h2 => next H1 locs1 ls M1 Ls1 _ _ hl h2 (by omega) (by omega))
      | 33, _ =>
        refine lv_tableIn (tgt := 1382) hx hb dL_law_40 (by rw [hk]; decide) (by rw [hk]; decide) (by rw [hk]; rfl) rfl ?_
        exact lc_guests F hl hi w hce hsl (fun H1 locs1 M1 Ls1 h2 => next H1 locs1 ls M1 Ls1 _ _ hl h2 (by omega) (by omega))
      | 34, _ =>
        refine lv_tableIn (tgt := 1431) hx hb dL_law_40 (by rw [hk]; decide) (by rw [hk]; decide) (by rw [hk]; rfl) rfl ?_
        exact lc_twins F hl hi w hce hsl (fun H1 locs1 M1 Ls1 h2 => next H1 locs1 ls M1 Ls1 _ _ hl h2 (by omega) (by omega))
      | 35, _ =>
        refine lv_tableIn (tgt := 1456) hx hb dL_law_40 (by rw [hk]; decide) (by rw [hk]; decide) (by rw [hk]; rfl) rfl ?_
        exact lc_image F hl hi w hce hsl (fun H1 locs1 M1 Ls1 h2 => next H1 locs1 ls M1 Ls1 _ _ hl h2 (by omega) (by omega))
      | 36, _ =>
        refine lv_tableIn (tgt := 1469) hx hb dL_law_40 (by rw [hk]; decide) (by rw [hk]; decide) (by rw [hk]; rfl) rfl ?_
        exact lc_back F hl hi w hce hsl (fun H1 locs1 M1 Ls1 h2 => next H1 locs1 ls M1 Ls1 _ _ hl h2 (by omega) (by omega))
      | 37, _ =>
        refine lv_tableIn (tgt := 1482) hx hb dL_law_40 (by rw [hk]; decide) (by rw [hk]; decide) (by rw [hk]; rfl) rfl ?_
        exact lc_count F hl hi w hce hsl (fun H1 locs1 M1 Ls1 h2 => next H1 locs1 ls M1 Ls1 _ _ hl h2 (by omega) (by omega))
      | (z + 38), h => exact absurd h (by omega)
    · exact lv_tableOut (tgt := 1507) hx hb dL_law_40 (by omega) rfl (next H locs ls M Ls cells slots hl w (by omega) (by omega))
end
