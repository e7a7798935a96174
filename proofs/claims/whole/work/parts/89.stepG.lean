section
variable {p : Program} {l : Launch} {e : Env} {R : Room} {s : State} {m : MethodId} {args : Array Value} {below : List Frame} {meth : Method} {c : Code} {me : MEnt} {D : va_G} {cA : FieldType → ClassId} {A : Nat → Prop} {ad : Nat → Nat} {pc : Nat} {ls : Lcs} {st : List AV} {sh : List Kd} {σ : Sto} {pc' : Nat} {ls' : Lcs} {st' : List AV} {sh' : List Kd} {σ' : Sto} {dc ds : Nat}
theorem va_P_same {D : va_G} {cl : List vw_C} {ws : va_W} {H H1 : Heap} (h : va_P D cl ws H) (hk : ∀ q : Nat, q < H.size → H1[q]? = H[q]?) : va_P D cl ws H1 := h.kept (fun k q hq => by
  have hat := h k q hq
  refine hk _ ?_
  unfold va_at at hat
  split at hat
  · exact (Array.getElem?_eq_some_iff.mp hat).1
  · obtain ⟨r, -, cell, hc, -⟩ := hat
    exact (Array.getElem?_eq_some_iff.mp hc).1)
theorem xs_len : ∀ i : Fin 4, Int32.ofNat (([1, 5, 3, 2] : List Nat).getD i.val 0) = Int32.ofInt ((xsr (1010 + i.val)).length : Int) ∧ (xsr (1010 + i.val)).length = ([1, 5, 3, 2] : List Nat).getD i.val 0 := by decide +kernel
theorem xs_at {i j : Nat} (hi : i < 4) (hj : j < ([1, 5, 3, 2] : List Nat).getD i 0) : sxC i j = Int32.ofInt ((xsr (1010 + i)).getD j 0) ∧ r32 ((xsr (1010 + i)).getD j 0) := by
  have h5 : j < 5 := by
    rcases (show i = 0 ∨ i = 1 ∨ i = 2 ∨ i = 3 by omega) with rfl | rfl | rfl | rfl <;> simp at hj <;> omega
  rcases (show i = 0 ∨ i = 1 ∨ i = 2 ∨ i = 3 by omega) with rfl | rfl | rfl | rfl <;> rcases (show j = 0 ∨ j = 1 ∨ j = 2 ∨ j = 3 ∨ j = 4 by omega) with rfl | rfl | rfl | rfl | rfl <;> first | (exfalso; revert hj; decide) | exact ⟨by decide, by decide, by decide⟩
theorem S_invokevirtual {idx : Nat} (B : Bd p R s m args meth c me D cA A ad) (hd : decode (eB me) pc = .ok (.invokevirtual idx, 3)) (h : stpI me (.invokevirtual idx) 3 pc ls st sh σ = some (.inl (pc', ls', st', sh', σ', dc, ds))) : Sim p l e R s m args below meth c me D cA A ad pc ls st sh σ pc' ls' st' sh' σ' dc ds := by
  obtain ⟨i, z, hlk, hii, h9⟩ := inv_in h
  clear h
  have hi12 : i = 1 ∨ i = 2 := by simpa using hii
  obtain ⟨hx, hb, hr, hml, hown, hts, hlocks, hin, hK, hA, hX, hV, hfr, hlo⟩ := B
  have ho := axI_ok _ _ (lookup_mem hlk)
  simp only [okIb, Bool.and_eq_true, decide_eq_true_eq] at ho
  obtain ⟨adV, hE⟩ := hX.2.2.1
  have hZ := hX.2.2.2.2.2.1
  have hq := hX.2.2.2.2.2.2
  have atH : ∀ (H : Heap) (locs : List Loc), va_S A s.heap H locs → ∀ U : State, U.heap = H → s.WarmedH U.vm → sxP (fun i => ad (1010 + i)) adV H.size U := by
    intro H locs hS U hU hW
    have nr : ∀ q : Nat, H.size ≤ q → A q := fun q h => hA q (Nat.le_trans hS.1 h)
    refine ⟨by rw [hU], ?_, ?_, ?_⟩
    · rw [hU]; exact ((hE.moved hW.alike).kept hS.2.1).narrow nr
    · rw [hU]; exact ((hZ.moved hW.alike).kept hS.2.1).narrow nr
    · rw [hU]; exact ((hq.moved hW.alike).kept hS.2.1).narrow nr
  have S : CallFix p m c (eB me) (eL me) s args gwT (axR (eC me)) := ⟨hx, hb, hml, hown, hts⟩
  rcases hi12 with rfl | rfl
  · have h : in1 pc ls st sh σ = _ := h9
    clear h9
    unfold in1 at h
    split at h
    · rename_i k r
      obtain ⟨h1, h2⟩ := gd_in h
      simp only [Bool.and_eq_true, decide_eq_true_eq] at h1
      obtain ⟨⟨g1, g2⟩, g3⟩ := h1
      obtain ⟨rfl, rfl, rfl, rfl, rfl, rfl, rfl⟩ := nx_in h2
      obtain ⟨i, rfl⟩ : ∃ i, k = 1010 + i := ⟨k - 1010, by omega⟩
      have hi : i < 4 := by omega
      intro lsA H locs cells slots Q F Wd hce hsl kk
      have nr : ∀ q : Nat, H.size ≤ q → A q := fun q h => hA q (Nat.le_trans Wd.2.2.1.1 h)
      have hroom : 2 * (F0 m pc lsA ((.inr (.inr (some (1010 + i))) :: r : List AV).map (cV ad))).monitorRoom + ((r.map (cV ad)).map fun v => v.category).sum ≤ 8 := by
        rw [catS_map]; show 2 * 0 + _ ≤ 8; omega
      refine va_calli (va_runV (C := "java/lang/String") (b := ad (1010 + i)) (As := []) (rest := r.map (cV ad)) S (sx_len l (fun i => ad (1010 + i)) adV H.size i hi) ⟨⟨rfl, rfl, Nat.le_trans (by decide) hfr, Nat.le_trans (by decide) hlo, sx_ws wS_len hts, List.mem_cons_self, hts _ wS_len, hts _ wS_inS, ⟨by decide, by decide⟩, par_of (n := 0) (by decide +kernel), hts _ (gw_of ho.1 rfl)⟩, hts _ wS_ilen, hts _ wS_slen⟩ ⟨sxP_blind, vk_recv (adK := fun i => ad (1010 + i)) (i := i) hE hi Wd.2.2.1, fun U hU hW => ⟨rfl, atH H locs Wd.2.2.1 U hU hW⟩⟩ rfl rfl F.1.1 rfl hroom hd ⟨hce, hsl⟩) Wd.2.2.1 (fun q _ h => nr q h) nr (fun rv u t H1 locs1 ht hvm hw hB hz1 hk1 hS1 => ?_)
      have hw : rv = Int32.ofNat (([1, 5, 3, 2] : List Nat).getD i 0) := hw
      have xl := xs_len ⟨i, hi⟩
      simp only at xl
      rw [hw, xl.1]
      have hv : vOK sh.length (.inl ((xsr (1010 + i)).length : Int)) := by
        show r32 _
        rw [xl.2]
        rcases (show i = 0 ∨ i = 1 ∨ i = 2 ∨ i = 3 by omega) with rfl | rfl | rfl | rfl <;> exact ⟨by decide, by decide⟩
      exact kk ad lsA H1 locs1 Ag.rf (F.tl.push hv) ⟨va_P_same Wd.1 (fun q h => hk1 q h (Nat.not_le.mpr h)), Wd.2.1, hS1, Wd.2.2.2.1, Wd.2.2.2.2⟩ (Nat.le_refl _)
    · cases h
  · have h : in2 pc ls st sh σ = _ := h9
    clear h9
    unfold in2 at h
    split at h
    · rename_i j k r
      obtain ⟨h1, h2⟩ := gd_in h
      simp only [Bool.and_eq_true, decide_eq_true_eq] at h1
      obtain ⟨⟨⟨⟨g1, g2⟩, g4⟩, g5⟩, g3⟩ := h1
      obtain ⟨rfl, rfl, rfl, rfl, rfl, rfl, rfl⟩ := nx_in h2
      obtain ⟨i, rfl⟩ : ∃ i, k = 1010 + i := ⟨k - 1010, by omega⟩
      have hi : i < 4 := by omega
      have xl := xs_len ⟨i, hi⟩
      simp only at xl
      have hj : j.toNat < ([1, 5, 3, 2] : List Nat).getD i 0 := by rw [← xl.2]; omega
      have je : (j.toNat : Int) = j := by omega
      have xa := xs_at hi hj
      intro lsA H locs cells slots Q F Wd hce hsl kk
      have nr : ∀ q : Nat, H.size ≤ q → A q := fun q h => hA q (Nat.le_trans Wd.2.2.1.1 h)
      have hroom : 2 * (F0 m pc lsA ((.inl j :: .inr (.inr (some (1010 + i))) :: r : List AV).map (cV ad))).monitorRoom + ((r.map (cV ad)).map fun v => v.category).sum ≤ 8 := by
        rw [catS_map]; show 2 * 0 + _ ≤ 8; omega
      have jv : Value.int (Int32.ofInt j) = Value.int (Int32.ofNat j.toNat) := by
        rw [← je, Int.toNat_natCast]; rfl
      refine va_calli (va_runV (C := "java/lang/String") (b := ad (1010 + i)) (As := [.int (Int32.ofNat j.toNat)]) (rest := r.map (cV ad)) S (sx_cha l (fun i => ad (1010 + i)) adV H.size i j.toNat hi hj) ⟨⟨rfl, rfl, hfr, Nat.le_trans (by decide) hlo, sx_ws wS_cha hts, List.mem_cons_self, hts _ wS_cha, hts _ wS_inS, ⟨by decide, by decide⟩, par_of (n := 1) (by decide +kernel), hts _ (gw_of ho.1 rfl)⟩, hts _ wS_icha, hts _ wS_scha⟩ ⟨sxP_blind, vk_recv (adK := fun i => ad (1010 + i)) (i := i) hE hi Wd.2.2.1, fun U hU hW => ⟨rfl, atH H locs Wd.2.2.1 U hU hW⟩⟩ rfl rfl F.1.1 (by rw [← jv]; rfl) hroom hd ⟨hce, hsl⟩) Wd.2.2.1 (fun q _ h => nr q h) nr (fun rv u t H1 locs1 ht hvm hw hB hz1 hk1 hS1 => ?_)
      have hw : rv = sxC i j.toNat := hw
      rw [hw, xa.1]
      exact kk ad lsA H1 locs1 Ag.rf (F.tl.tl.push xa.2) ⟨va_P_same Wd.1 (fun q h => hk1 q h (Nat.not_le.mpr h)), Wd.2.1, hS1, Wd.2.2.2.1, Wd.2.2.2.2⟩ (Nat.le_refl _)
    · cases h
end
section
variable {p : Program} {l : Launch} {e : Env} {R : Room} {s : State} {m : MethodId} {args : Array Value} {below : List Frame} {meth : Method} {c : Code} {me : MEnt} {D : va_G} {cA : FieldType → ClassId} {A : Nat → Prop} {ad : Nat → Nat} {pc : Nat} {ls : Lcs} {st : List AV} {sh : List Kd} {σ : Sto} {pc' : Nat} {ls' : Lcs} {st' : List AV} {sh' : List Kd} {σ' : Sto} {dc ds : Nat}
theorem ln_eq {a b : Nat} (h : (a == b) = true) : a = b := by simpa using h
/-- each step of the abstract machine within a method is one of the claim's machine -/
theorem stp_sim (B : Bd p R s m args meth c me D cA A ad) (h : stp me pc ls st sh σ = some (.inl (pc', ls', st', sh', σ', dc, ds))) : Sim p l e R s m args below meth c me D cA A ad pc ls st sh σ pc' ls' st' sh' σ' dc ds := by
  unfold stp at h
  split at h
  · rename_i i len hd
    split at h
    · rename_i hn
      cases i with
      | iadd => cases ln_eq (b := 1) hn; exact S_iadd B hd h
      | isub => cases ln_eq (b := 1) hn; exact S_isub B hd h
      | imul => cases ln_eq (b := 1) hn; exact S_imul B hd h
      | iand => cases ln_eq (b := 1) hn; exact S_iand B hd h
      | ior => cases ln_eq (b := 1) hn; exact S_ior B hd h
      | ixor => cases ln_eq (b := 1) hn; exact S_ixor B hd h
      | ishl => cases ln_eq (b := 1) hn; exact S_ishl B hd h
      | ishr => cases ln_eq (b := 1) hn; exact S_ishr B hd h
      | iushr => cases ln_eq (b := 1) hn; exact S_iushr B hd h
      | idiv => cases ln_eq (b := 1) hn; exact S_idiv B hd h
      | irem => cases ln_eq (b := 1) hn; exact S_irem B hd h
      | ineg => cases ln_eq (b := 1) hn; exact S_ineg B hd h
      | ladd => cases ln_eq (b := 1) hn; exact S_ladd B hd h
      | lsub => cases ln_eq (b := 1) hn; exact S_lsub B hd h
      | lmul => cases ln_eq (b := 1) hn; exact S_lmul B hd h
      | ldiv => cases ln_eq (b := 1) hn; exact S_ldiv B hd h
      | lrem => cases ln_eq (b := 1) hn; exact S_lrem B hd h
      | lushr => cases ln_eq (b := 1) hn; exact S_lushr B hd h
      | lcmp => cases ln_eq (b := 1) hn; exact S_lcmp B hd h
      | i2l => cases ln_eq (b := 1) hn; exact S_i2l B hd h
      | l2i => cases ln_eq (b := 1) hn; exact S_l2i B hd h
      | i2b => cases ln_eq (b := 1) hn; exact S_i2b B hd h
      | dup => cases ln_eq (b := 1) hn; exact S_dup B hd h
      | dup2 => cases ln_eq (b := 1) hn; exact S_dup2 B hd h
      | pop => cases ln_eq (b := 1) hn; exact S_pop B hd h
      | iaload => cases ln_eq (b := 1) hn; exact S_iaload B hd h
      | caload => cases ln_eq (b := 1) hn; exact S_caload B hd h
      | iastore => cases ln_eq (b := 1) hn; exact S_iastore B hd h
      | baload => cases ln_eq (b := 1) hn; exact S_baload B hd h
      | bastore => cases ln_eq (b := 1) hn; exact S_bastore B hd h
      | aaload => cases ln_eq (b := 1) hn; exact S_aaload B hd h
      | aastore => cases ln_eq (b := 1) hn; exact S_aastore B hd h
      | iload i => cases ln_eq (b := 2) hn; exact S_iload B hd h
      | lload i => cases ln_eq (b := 2) hn; exact S_lload B hd h
      | aload i => cases ln_eq (b := 2) hn; exact S_aload B hd h
      | istore i => cases ln_eq (b := 2) hn; exact S_istore B hd h
      | lstore i => cases ln_eq (b := 2) hn; exact S_lstore B hd h
      | astore i => cases ln_eq (b := 2) hn; exact S_astore B hd h
      | iload_n i => cases ln_eq (b := 1) hn; exact S_iload_n B hd h
      | lload_n i => cases ln_eq (b := 1) hn; exact S_lload_n B hd h
      | aload_n i => cases ln_eq (b := 1) hn; exact S_aload_n B hd h
      | istore_n i => cases ln_eq (b := 1) hn; exact S_istore_n B hd h
      | lstore_n i => cases ln_eq (b := 1) hn; exact S_lstore_n B hd h
      | astore_n i => cases ln_eq (b := 1) hn; exact S_astore_n B hd h
      | iconst n => cases ln_eq (b := 1) hn; exact S_iconst B hd h
      | bipush n => cases ln_eq (b := 2) hn; exact S_bipush B hd h
      | sipush n => cases ln_eq (b := 3) hn; exact S_sipush B hd h
      | lconst n => cases ln_eq (b := 1) hn; exact S_lconst B hd h
      | ldc i => cases ln_eq (b := 2) hn; exact S_ldc B hd h
      | ldc_w i => cases ln_eq (b := 3) hn; exact S_ldc_w B hd h
      | ldc2_w i => cases ln_eq (b := 3) hn; exact S_ldc2_w B hd h
      | getstatic i => cases ln_eq (b := 3) hn; exact S_getstatic B hd h
      | getfield i => cases ln_eq (b := 3) hn; exact S_getfield B hd h
      | putfield i => cases ln_eq (b := 3) hn; exact S_putfield B hd h
      | new i => cases ln_eq (b := 3) hn; exact S_new B hd h
      | newarray t => cases ln_eq (b := 2) hn; exact S_newarray B hd h
      | anewarray i => cases ln_eq (b := 3) hn; exact S_anewarray B hd h
      | invokestatic i => cases ln_eq (b := 3) hn; exact S_invokestatic B hd h
      | invokespecial i => cases ln_eq (b := 3) hn; exact S_invokespecial B hd h
      | invokevirtual i => cases ln_eq (b := 3) hn; exact S_invokevirtual B hd h
      | goto o => cases ln_eq (b := 3) hn; exact S_goto B hd h
      | iinc i n => cases ln_eq (b := 3) hn; exact S_iinc B hd h
      | ifCond cn o => cases ln_eq (b := 3) hn; exact S_ifCond B hd h
      | if_icmp cn o => cases ln_eq (b := 3) hn; exact S_if_icmp B hd h
      | lookupswitch dt ps => exact S_lookupswitch B hd h
      | tableswitch dt lo hi os => exact S_tableswitch B hd h
      | ireturn =>
        exfalso
        unfold stpI at h
        dsimp only at h
        split at h <;> first | (cases h; done) | (cases (gd_in h).2; done)
      | lreturn =>
        exfalso
        unfold stpI at h
        dsimp only at h
        split at h <;> first | (cases h; done) | (cases (gd_in h).2; done)
      | return_ =>
        exfalso
        unfold stpI at h
        dsimp only at h
        split at h <;> first | (cases h; done) | (cases (gd_in h).2; done)
      | _ => cases h
    · cases h
  · cases h
end
