section
variable {p : Program} {l : Launch} {e : Env} {R : Room} {s : State} {m : MethodId} {args : Array Value} {below : List Frame} {meth : Method} {c : Code} {me : MEnt} {D : va_G} {cA : FieldType → ClassId} {A : Nat → Prop} {ad : Nat → Nat} {pc : Nat} {ls : Lcs} {st : List AV} {sh : List Kd} {σ : Sto} {pc' : Nat} {ls' : Lcs} {st' : List AV} {sh' : List Kd} {σ' : Sto} {dc ds : Nat}
theorem S_iload {i : Nat} (B : Bd p R s m args meth c me D cA A ad) (hd : decode (eB me) pc = .ok (.iload i, 2)) (h : stpI me (.iload i) 2 pc ls st sh σ = some (.inl (pc', ls', st', sh', σ', dc, ds))) : Sim p l e R s m args below meth c me D cA A ad pc ls st sh σ pc' ls' st' sh' σ' dc ds :=
  S_ld B 0 i _ (fun _ x H locs cells slots Q lsA rest h1 k => lv_iload B.1 B.2.1 hd h1 k) (fun h => by cases h) (fun h => by cases h) h
theorem S_iload_n {i : Fin 4} (B : Bd p R s m args meth c me D cA A ad) (hd : decode (eB me) pc = .ok (.iload_n i, 1)) (h : stpI me (.iload_n i) 1 pc ls st sh σ = some (.inl (pc', ls', st', sh', σ', dc, ds))) : Sim p l e R s m args below meth c me D cA A ad pc ls st sh σ pc' ls' st' sh' σ' dc ds :=
  S_ld B 0 i _ (fun _ x H locs cells slots Q lsA rest h1 k => lv_iload_n B.1 B.2.1 hd rfl h1 k) (fun h => by cases h) (fun h => by cases h) h
theorem S_lload {i : Nat} (B : Bd p R s m args meth c me D cA A ad) (hd : decode (eB me) pc = .ok (.lload i, 2)) (h : stpI me (.lload i) 2 pc ls st sh σ = some (.inl (pc', ls', st', sh', σ', dc, ds))) : Sim p l e R s m args below meth c me D cA A ad pc ls st sh σ pc' ls' st' sh' σ' dc ds :=
  S_ld B 1 i _ (fun h => by cases h) (fun _ x H locs cells slots Q lsA rest h1 k => lv_lload B.1 B.2.1 hd h1 k) (fun h => by cases h) h
theorem S_lload_n {i : Fin 4} (B : Bd p R s m args meth c me D cA A ad) (hd : decode (eB me) pc = .ok (.lload_n i, 1)) (h : stpI me (.lload_n i) 1 pc ls st sh σ = some (.inl (pc', ls', st', sh', σ', dc, ds))) : Sim p l e R s m args below meth c me D cA A ad pc ls st sh σ pc' ls' st' sh' σ' dc ds :=
  S_ld B 1 i _ (fun h => by cases h) (fun _ x H locs cells slots Q lsA rest h1 k => lv_lload_n B.1 B.2.1 hd rfl h1 k) (fun h => by cases h) h
theorem S_aload {i : Nat} (B : Bd p R s m args meth c me D cA A ad) (hd : decode (eB me) pc = .ok (.aload i, 2)) (h : stpI me (.aload i) 2 pc ls st sh σ = some (.inl (pc', ls', st', sh', σ', dc, ds))) : Sim p l e R s m args below meth c me D cA A ad pc ls st sh σ pc' ls' st' sh' σ' dc ds :=
  S_ld B 2 i _ (fun h => by cases h) (fun h => by cases h) (fun _ x H locs cells slots Q lsA rest h1 k => lv_aload B.1 B.2.1 hd h1 k) h
theorem S_aload_n {i : Fin 4} (B : Bd p R s m args meth c me D cA A ad) (hd : decode (eB me) pc = .ok (.aload_n i, 1)) (h : stpI me (.aload_n i) 1 pc ls st sh σ = some (.inl (pc', ls', st', sh', σ', dc, ds))) : Sim p l e R s m args below meth c me D cA A ad pc ls st sh σ pc' ls' st' sh' σ' dc ds :=
  S_ld B 2 i _ (fun h => by cases h) (fun h => by cases h) (fun _ x H locs cells slots Q lsA rest h1 k => lv_aload_n B.1 B.2.1 hd rfl h1 k) h
theorem S_istore {i : Nat} (B : Bd p R s m args meth c me D cA A ad) (hd : decode (eB me) pc = .ok (.istore i, 2)) (h : stpI me (.istore i) 2 pc ls st sh σ = some (.inl (pc', ls', st', sh', σ', dc, ds))) : Sim p l e R s m args below meth c me D cA A ad pc ls st sh σ pc' ls' st' sh' σ' dc ds :=
  S_st B 0 i _ (fun _ hi x lv H locs cells slots Q lsA rest h1 k => lv_istore B.1 B.2.1 hd h1 hi rfl k) (fun h => by cases h) (fun h => by cases h) h
theorem S_istore_n {i : Fin 4} (B : Bd p R s m args meth c me D cA A ad) (hd : decode (eB me) pc = .ok (.istore_n i, 1)) (h : stpI me (.istore_n i) 1 pc ls st sh σ = some (.inl (pc', ls', st', sh', σ', dc, ds))) : Sim p l e R s m args below meth c me D cA A ad pc ls st sh σ pc' ls' st' sh' σ' dc ds :=
  S_st B 0 i _ (fun _ hi x lv H locs cells slots Q lsA rest h1 k => lv_istore_n B.1 B.2.1 hd rfl h1 hi rfl k) (fun h => by cases h) (fun h => by cases h) h
theorem S_lstore {i : Nat} (B : Bd p R s m args meth c me D cA A ad) (hd : decode (eB me) pc = .ok (.lstore i, 2)) (h : stpI me (.lstore i) 2 pc ls st sh σ = some (.inl (pc', ls', st', sh', σ', dc, ds))) : Sim p l e R s m args below meth c me D cA A ad pc ls st sh σ pc' ls' st' sh' σ' dc ds :=
  S_st B 1 i _ (fun h => by cases h) (fun _ hi x lv H locs cells slots Q lsA rest h1 k => lv_lstore B.1 B.2.1 hd h1 hi rfl k) (fun h => by cases h) h
theorem S_lstore_n {i : Fin 4} (B : Bd p R s m args meth c me D cA A ad) (hd : decode (eB me) pc = .ok (.lstore_n i, 1)) (h : stpI me (.lstore_n i) 1 pc ls st sh σ = some (.inl (pc', ls', st', sh', σ', dc, ds))) : Sim p l e R s m args below meth c me D cA A ad pc ls st sh σ pc' ls' st' sh' σ' dc ds :=
  S_st B 1 i _ (fun h => by cases h) (fun _ hi x lv H locs cells slots Q lsA rest h1 k => lv_lstore_n B.1 B.2.1 hd rfl h1 hi rfl k) (fun h => by cases h) h
theorem S_astore {i : Nat} (B : Bd p R s m args meth c me D cA A ad) (hd : decode (eB me) pc = .ok (.astore i, 2)) (h : stpI me (.astore i) 2 pc ls st sh σ = some (.inl (pc', ls', st', sh', σ', dc, ds))) : Sim p l e R s m args below meth c me D cA A ad pc ls st sh σ pc' ls' st' sh' σ' dc ds :=
  S_st B 2 i _ (fun h => by cases h) (fun h => by cases h) (fun _ hi x lv H locs cells slots Q lsA rest h1 k => lv_astore B.1 B.2.1 hd h1 hi rfl k) h
theorem S_astore_n {i : Fin 4} (B : Bd p R s m args meth c me D cA A ad) (hd : decode (eB me) pc = .ok (.astore_n i, 1)) (h : stpI me (.astore_n i) 1 pc ls st sh σ = some (.inl (pc', ls', st', sh', σ', dc, ds))) : Sim p l e R s m args below meth c me D cA A ad pc ls st sh σ pc' ls' st' sh' σ' dc ds :=
  S_st B 2 i _ (fun h => by cases h) (fun h => by cases h) (fun _ hi x lv H locs cells slots Q lsA rest h1 k => lv_astore_n B.1 B.2.1 hd rfl h1 hi rfl k) h
theorem S_iconst {n : Int} (B : Bd p R s m args meth c me D cA A ad) (hd : decode (eB me) pc = .ok (.iconst n, 1)) (h : stpI me (.iconst n) 1 pc ls st sh σ = some (.inl (pc', ls', st', sh', σ', dc, ds))) : Sim p l e R s m args below meth c me D cA A ad pc ls st sh σ pc' ls' st' sh' σ' dc ds := by
  obtain ⟨h1, h2⟩ := gd_in h
  simp only [Bool.and_eq_true, decide_eq_true_eq] at h1
  exact S_pushI _ n ⟨by omega, by omega⟩ (fun H locs cells slots Q lsA rest k => lv_iconst B.1 B.2.1 hd rfl k) h2
theorem of8 {n : Int} (h1 : -128 ≤ n) (h2 : n ≤ 127) : (Int8.ofInt n).toInt32 = Int32.ofInt n := by
  apply Int32.toInt_inj.mp
  rw [Int8.toInt_toInt32, Int8.toInt_ofInt_of_le (by omega) (by omega), of32 ⟨by omega, by omega⟩]
theorem of16 {n : Int} (h1 : -32768 ≤ n) (h2 : n ≤ 32767) : (Int16.ofInt n).toInt32 = Int32.ofInt n := by
  apply Int32.toInt_inj.mp
  rw [Int16.toInt_toInt32, Int16.toInt_ofInt_of_le (by omega) (by omega), of32 ⟨by omega, by omega⟩]
theorem S_bipush {n : Int} (B : Bd p R s m args meth c me D cA A ad) (hd : decode (eB me) pc = .ok (.bipush n, 2)) (h : stpI me (.bipush n) 2 pc ls st sh σ = some (.inl (pc', ls', st', sh', σ', dc, ds))) : Sim p l e R s m args below meth c me D cA A ad pc ls st sh σ pc' ls' st' sh' σ' dc ds := by
  obtain ⟨h1, h2⟩ := gd_in h
  simp only [Bool.and_eq_true, decide_eq_true_eq] at h1
  exact S_pushI _ n ⟨by omega, by omega⟩ (fun H locs cells slots Q lsA rest k => lv_bipush B.1 B.2.1 hd (of8 h1.1 h1.2) k) h2
theorem S_sipush {n : Int} (B : Bd p R s m args meth c me D cA A ad) (hd : decode (eB me) pc = .ok (.sipush n, 3)) (h : stpI me (.sipush n) 3 pc ls st sh σ = some (.inl (pc', ls', st', sh', σ', dc, ds))) : Sim p l e R s m args below meth c me D cA A ad pc ls st sh σ pc' ls' st' sh' σ' dc ds := by
  obtain ⟨h1, h2⟩ := gd_in h
  simp only [Bool.and_eq_true, decide_eq_true_eq] at h1
  exact S_pushI _ n ⟨by omega, by omega⟩ (fun H locs cells slots Q lsA rest k => lv_sipush B.1 B.2.1 hd (of16 h1.1 h1.2) k) h2
theorem S_lconst {n : Fin 2} (B : Bd p R s m args meth c me D cA A ad) (hd : decode (eB me) pc = .ok (.lconst n, 1)) (h : stpI me (.lconst n) 1 pc ls st sh σ = some (.inl (pc', ls', st', sh', σ', dc, ds))) : Sim p l e R s m args below meth c me D cA A ad pc ls st sh σ pc' ls' st' sh' σ' dc ds :=
  S_pushJ _ ((n : Nat) : Int) ⟨by omega, by omega⟩ (fun H locs cells slots Q lsA rest k => lv_lconst B.1 B.2.1 hd (by match n with | 0 => rfl | 1 => rfl) k) h
theorem S_ldc {idx : Nat} (B : Bd p R s m args meth c me D cA A ad) (hd : decode (eB me) pc = .ok (.ldc idx, 2)) (h : stpI me (.ldc idx) 2 pc ls st sh σ = some (.inl (pc', ls', st', sh', σ', dc, ds))) : Sim p l e R s m args below meth c me D cA A ad pc ls st sh σ pc' ls' st' sh' σ' dc ds := by
  obtain ⟨hx, hb, hr, hml, hown, hts, hlocks, hin, hK, hA, hX, hV, hfr, hlo⟩ := B
  unfold stpI at h
  dsimp only at h
  split at h
  · rename_i n z hlk
    have hk := axK_ok _ _ (lookup_mem hlk)
    simp only [okKb, Bool.and_eq_true, decide_eq_true_eq] at hk
    exact S_pushI _ n ⟨hk.1.2, hk.2⟩ (fun H locs cells slots Q lsA rest k => lv_ldc hx hb hown (hts _ (gw_of hk.1.1 rfl)) hd k) h
  · split at h
    · rename_i k z hlk
      obtain ⟨rfl, rfl, rfl, rfl, rfl, rfl, rfl⟩ := nx_in h
      have hk := axS_ok _ _ (lookup_mem hlk)
      simp only [okSb, Bool.and_eq_true, decide_eq_true_eq] at hk
      refine Sim_fr fun lsA H locs cells slots Q F kk => ?_
      exact va_ldcS hx hb hown (hX.2.1 _ _ (lookup_mem hlk)) hd (kk lsA (F.push (v := .inr (.inr (some k))) (fun j hj => by cases hj; omega)))
    · cases h
theorem S_ldc_w {idx : Nat} (B : Bd p R s m args meth c me D cA A ad) (hd : decode (eB me) pc = .ok (.ldc_w idx, 3)) (h : stpI me (.ldc_w idx) 3 pc ls st sh σ = some (.inl (pc', ls', st', sh', σ', dc, ds))) : Sim p l e R s m args below meth c me D cA A ad pc ls st sh σ pc' ls' st' sh' σ' dc ds := by
  obtain ⟨hx, hb, hr, hml, hown, hts, hlocks, hin, hK, hA, hX, hV, hfr, hlo⟩ := B
  unfold stpI at h
  dsimp only at h
  split at h
  · rename_i n z hlk
    have hk := axK_ok _ _ (lookup_mem hlk)
    simp only [okKb, Bool.and_eq_true, decide_eq_true_eq] at hk
    exact S_pushI _ n ⟨hk.1.2, hk.2⟩ (fun H locs cells slots Q lsA rest k => lv_ldcw hx hb hown (hts _ (gw_of hk.1.1 rfl)) hd k) h
  · cases h
theorem S_ldc2_w {idx : Nat} (B : Bd p R s m args meth c me D cA A ad) (hd : decode (eB me) pc = .ok (.ldc2_w idx, 3)) (h : stpI me (.ldc2_w idx) 3 pc ls st sh σ = some (.inl (pc', ls', st', sh', σ', dc, ds))) : Sim p l e R s m args below meth c me D cA A ad pc ls st sh σ pc' ls' st' sh' σ' dc ds := by
  obtain ⟨hx, hb, hr, hml, hown, hts, hlocks, hin, hK, hA, hX, hV, hfr, hlo⟩ := B
  unfold stpI at h
  dsimp only at h
  split at h
  · rename_i n z hlk
    have hk := axL_ok _ _ (lookup_mem hlk)
    simp only [okLb, Bool.and_eq_true, decide_eq_true_eq] at hk
    exact S_pushJ _ n ⟨hk.1.2, hk.2⟩ (fun H locs cells slots Q lsA rest k => lv_ldc2 hx hb hown (hts _ (gw_of hk.1.1 rfl)) hd k) h
  · cases h
theorem S_dup (B : Bd p R s m args meth c me D cA A ad) (hd : decode (eB me) pc = .ok (.dup, 1)) (h : stpI me .dup 1 pc ls st sh σ = some (.inl (pc', ls', st', sh', σ', dc, ds))) : Sim p l e R s m args below meth c me D cA A ad pc ls st sh σ pc' ls' st' sh' σ' dc ds := by
  unfold stpI at h
  dsimp only at h
  split at h
  · obtain ⟨h1, h2⟩ := gd_in h
    have h1 := of_decide_eq_true h1
    obtain ⟨rfl, rfl, rfl, rfl, rfl, rfl, rfl⟩ := nx_in h2
    refine Sim_fr fun lsA H locs cells slots Q F kk => ?_
    exact lv_dup B.1 B.2.1 hd ((avC_cV _ _).trans h1) (kk lsA (F.push F.hd))
  · cases h
theorem S_dup2 (B : Bd p R s m args meth c me D cA A ad) (hd : decode (eB me) pc = .ok (.dup2, 1)) (h : stpI me .dup2 1 pc ls st sh σ = some (.inl (pc', ls', st', sh', σ', dc, ds))) : Sim p l e R s m args below meth c me D cA A ad pc ls st sh σ pc' ls' st' sh' σ' dc ds := by
  unfold stpI at h
  dsimp only at h
  split at h
  · obtain ⟨h1, h2⟩ := gd_in h
    simp only [Bool.and_eq_true, decide_eq_true_eq] at h1
    obtain ⟨rfl, rfl, rfl, rfl, rfl, rfl, rfl⟩ := nx_in h2
    refine Sim_fr fun lsA H locs cells slots Q F kk => ?_
    exact lv_dup2_11 B.1 B.2.1 hd ((avC_cV _ _).trans h1.1) ((avC_cV _ _).trans h1.2) (kk lsA ((F.push F.tl.hd).push F.hd))
  · cases h
theorem S_pop (B : Bd p R s m args meth c me D cA A ad) (hd : decode (eB me) pc = .ok (.pop, 1)) (h : stpI me .pop 1 pc ls st sh σ = some (.inl (pc', ls', st', sh', σ', dc, ds))) : Sim p l e R s m args below meth c me D cA A ad pc ls st sh σ pc' ls' st' sh' σ' dc ds := by
  unfold stpI at h
  dsimp only at h
  split at h
  · obtain ⟨h1, h2⟩ := gd_in h
    have h1 := of_decide_eq_true h1
    obtain ⟨rfl, rfl, rfl, rfl, rfl, rfl, rfl⟩ := nx_in h2
    refine Sim_fr fun lsA H locs cells slots Q F kk => ?_
    exact lv_pop B.1 B.2.1 hd ((avC_cV _ _).trans h1) (kk lsA F.tl)
  · cases h
theorem ofto (x : Int32) : Int32.ofInt x.toInt = x := Int32.ofInt_toInt x
theorem S_iadd (B : Bd p R s m args meth c me D cA A ad) (hd : decode (eB me) pc = .ok (.iadd, 1)) (h : stpI me .iadd 1 pc ls st sh σ = some (.inl (pc', ls', st', sh', σ', dc, ds))) : Sim p l e R s m args below meth c me D cA A ad pc ls st sh σ pc' ls' st' sh' σ' dc ds :=
  S_bi _ _ (fun x y => x + y) (fun a b _ _ => ⟨by rw [of_w32, Int32.ofInt_add], w32_r _⟩) (fun x y H locs cells slots Q lsA rest _ k => lv_iadd B.1 B.2.1 hd k) h
theorem S_isub (B : Bd p R s m args meth c me D cA A ad) (hd : decode (eB me) pc = .ok (.isub, 1)) (h : stpI me .isub 1 pc ls st sh σ = some (.inl (pc', ls', st', sh', σ', dc, ds))) : Sim p l e R s m args below meth c me D cA A ad pc ls st sh σ pc' ls' st' sh' σ' dc ds :=
  S_bi _ _ (fun x y => x - y) (fun a b _ _ => ⟨by rw [of_w32, Int32.ofInt_sub], w32_r _⟩) (fun x y H locs cells slots Q lsA rest _ k => lv_isub B.1 B.2.1 hd k) h
theorem S_imul (B : Bd p R s m args meth c me D cA A ad) (hd : decode (eB me) pc = .ok (.imul, 1)) (h : stpI me .imul 1 pc ls st sh σ = some (.inl (pc', ls', st', sh', σ', dc, ds))) : Sim p l e R s m args below meth c me D cA A ad pc ls st sh σ pc' ls' st' sh' σ' dc ds :=
  S_bi _ _ (fun x y => x * y) (fun a b _ _ => ⟨by rw [of_w32, Int32.ofInt_mul], w32_r _⟩) (fun x y H locs cells slots Q lsA rest _ k => lv_imul B.1 B.2.1 hd k) h
theorem S_iand (B : Bd p R s m args meth c me D cA A ad) (hd : decode (eB me) pc = .ok (.iand, 1)) (h : stpI me .iand 1 pc ls st sh σ = some (.inl (pc', ls', st', sh', σ', dc, ds))) : Sim p l e R s m args below meth c me D cA A ad pc ls st sh σ pc' ls' st' sh' σ' dc ds :=
  S_bi _ _ (fun x y => x &&& y) (fun a b _ _ => ⟨ofto _, r32_of _⟩) (fun x y H locs cells slots Q lsA rest _ k => lv_iand B.1 B.2.1 hd k) h
theorem S_ior (B : Bd p R s m args meth c me D cA A ad) (hd : decode (eB me) pc = .ok (.ior, 1)) (h : stpI me .ior 1 pc ls st sh σ = some (.inl (pc', ls', st', sh', σ', dc, ds))) : Sim p l e R s m args below meth c me D cA A ad pc ls st sh σ pc' ls' st' sh' σ' dc ds :=
  S_bi _ _ (fun x y => x ||| y) (fun a b _ _ => ⟨ofto _, r32_of _⟩) (fun x y H locs cells slots Q lsA rest _ k => lv_ior B.1 B.2.1 hd k) h
theorem S_ixor (B : Bd p R s m args meth c me D cA A ad) (hd : decode (eB me) pc = .ok (.ixor, 1)) (h : stpI me .ixor 1 pc ls st sh σ = some (.inl (pc', ls', st', sh', σ', dc, ds))) : Sim p l e R s m args below meth c me D cA A ad pc ls st sh σ pc' ls' st' sh' σ' dc ds :=
  S_bi _ _ (fun x y => x ^^^ y) (fun a b _ _ => ⟨ofto _, r32_of _⟩) (fun x y H locs cells slots Q lsA rest _ k => lv_ixor B.1 B.2.1 hd k) h
theorem S_ishl (B : Bd p R s m args meth c me D cA A ad) (hd : decode (eB me) pc = .ok (.ishl, 1)) (h : stpI me .ishl 1 pc ls st sh σ = some (.inl (pc', ls', st', sh', σ', dc, ds))) : Sim p l e R s m args below meth c me D cA A ad pc ls st sh σ pc' ls' st' sh' σ' dc ds :=
  S_bi _ _ (fun x y => x <<< (y &&& 31)) (fun a b _ _ => ⟨ofto _, r32_of _⟩) (fun x y H locs cells slots Q lsA rest _ k => lv_ishl B.1 B.2.1 hd k) h
theorem S_ishr (B : Bd p R s m args meth c me D cA A ad) (hd : decode (eB me) pc = .ok (.ishr, 1)) (h : stpI me .ishr 1 pc ls st sh σ = some (.inl (pc', ls', st', sh', σ', dc, ds))) : Sim p l e R s m args below meth c me D cA A ad pc ls st sh σ pc' ls' st' sh' σ' dc ds :=
  S_bi _ _ (fun x y => x >>> (y &&& 31)) (fun a b _ _ => ⟨ofto _, r32_of _⟩) (fun x y H locs cells slots Q lsA rest _ k => lv_ishr B.1 B.2.1 hd k) h
theorem S_iushr (B : Bd p R s m args meth c me D cA A ad) (hd : decode (eB me) pc = .ok (.iushr, 1)) (h : stpI me .iushr 1 pc ls st sh σ = some (.inl (pc', ls', st', sh', σ', dc, ds))) : Sim p l e R s m args below meth c me D cA A ad pc ls st sh σ pc' ls' st' sh' σ' dc ds :=
  S_bi _ _ (fun x y => (x.toUInt32 >>> (y.toUInt32 &&& Int32.toUInt32 31)).toInt32) (fun a b _ _ => ⟨ofto _, r32_of _⟩) (fun x y H locs cells slots Q lsA rest _ k => lv_iushr B.1 B.2.1 hd rfl k) h
theorem S_idiv (B : Bd p R s m args meth c me D cA A ad) (hd : decode (eB me) pc = .ok (.idiv, 1)) (h : stpI me .idiv 1 pc ls st sh σ = some (.inl (pc', ls', st', sh', σ', dc, ds))) : Sim p l e R s m args below meth c me D cA A ad pc ls st sh σ pc' ls' st' sh' σ' dc ds := by
  intro lsA H locs cells slots Q F
  revert lsA H locs cells slots Q F
  unfold stpI at h
  dsimp only at h
  split at h
  · rename_i b r
    obtain ⟨h1, h2⟩ := gd_in h
    have h1 := of_decide_eq_true h1
    intro lsA H locs cells slots Q F
    exact S_bi _ _ (fun x y => x / y) (fun a b _ _ => ⟨ofto _, r32_of _⟩) (fun x y H locs cells slots Q lsA rest hy k => lv_idiv B.1 B.2.1 hd (by rw [hy _ _ rfl]; exact ne0_32 F.hd h1) k) h2 lsA H locs cells slots Q F
  · cases h
theorem S_irem (B : Bd p R s m args meth c me D cA A ad) (hd : decode (eB me) pc = .ok (.irem, 1)) (h : stpI me .irem 1 pc ls st sh σ = some (.inl (pc', ls', st', sh', σ', dc, ds))) : Sim p l e R s m args below meth c me D cA A ad pc ls st sh σ pc' ls' st' sh' σ' dc ds := by
  unfold stpI at h
  dsimp only at h
  split at h
  · rename_i b r
    obtain ⟨h1, h2⟩ := gd_in h
    have h1 := of_decide_eq_true h1
    intro lsA H locs cells slots Q F
    exact S_bi _ _ (fun x y => x - x / y * y) (fun a b _ _ => ⟨ofto _, r32_of _⟩) (fun x y H locs cells slots Q lsA rest hy k => lv_irem B.1 B.2.1 hd (by rw [hy _ _ rfl]; exact ne0_32 F.hd h1) k) h2 lsA H locs cells slots Q F
  · cases h
theorem S_ineg (B : Bd p R s m args meth c me D cA A ad) (hd : decode (eB me) pc = .ok (.ineg, 1)) (h : stpI me .ineg 1 pc ls st sh σ = some (.inl (pc', ls', st', sh', σ', dc, ds))) : Sim p l e R s m args below meth c me D cA A ad pc ls st sh σ pc' ls' st' sh' σ' dc ds := by
  unfold stpI at h
  dsimp only at h
  split at h
  · rename_i a r
    obtain ⟨rfl, rfl, rfl, rfl, rfl, rfl, rfl⟩ := nx_in h
    refine Sim_fr fun lsA H locs cells slots Q F kk => ?_
    have := kk lsA (F.tl.push (v := .inl (w32 (-a))) (w32_r _))
    simp only [List.map_cons, cV, of_w32, Int32.ofInt_neg] at this
    exact lv_ineg B.1 B.2.1 hd this
  · cases h
theorem ofto64 (x : Int64) : Int64.ofInt x.toInt = x := Int64.ofInt_toInt x
theorem S_ladd (B : Bd p R s m args meth c me D cA A ad) (hd : decode (eB me) pc = .ok (.ladd, 1)) (h : stpI me .ladd 1 pc ls st sh σ = some (.inl (pc', ls', st', sh', σ', dc, ds))) : Sim p l e R s m args below meth c me D cA A ad pc ls st sh σ pc' ls' st' sh' σ' dc ds :=
  S_bj _ _ (fun x y => x + y) (fun a b _ _ => ⟨by rw [of_w64, Int64.ofInt_add], w64_r _⟩) (fun x y H locs cells slots Q lsA rest _ k => lv_ladd B.1 B.2.1 hd k) h
theorem S_lsub (B : Bd p R s m args meth c me D cA A ad) (hd : decode (eB me) pc = .ok (.lsub, 1)) (h : stpI me .lsub 1 pc ls st sh σ = some (.inl (pc', ls', st', sh', σ', dc, ds))) : Sim p l e R s m args below meth c me D cA A ad pc ls st sh σ pc' ls' st' sh' σ' dc ds :=
  S_bj _ _ (fun x y => x - y) (fun a b _ _ => ⟨by rw [of_w64, Int64.ofInt_sub], w64_r _⟩) (fun x y H locs cells slots Q lsA rest _ k => lv_lsub B.1 B.2.1 hd k) h
theorem S_lmul (B : Bd p R s m args meth c me D cA A ad) (hd : decode (eB me) pc = .ok (.lmul, 1)) (h : stpI me .lmul 1 pc ls st sh σ = some (.inl (pc', ls', st', sh', σ', dc, ds))) : Sim p l e R s m args below meth c me D cA A ad pc ls st sh σ pc' ls' st' sh' σ' dc ds :=
  S_bj _ _ (fun x y => x * y) (fun a b _ _ => ⟨by rw [of_w64, Int64.ofInt_mul], w64_r _⟩) (fun x y H locs cells slots Q lsA rest _ k => lv_lmul B.1 B.2.1 hd k) h
theorem S_ldiv (B : Bd p R s m args meth c me D cA A ad) (hd : decode (eB me) pc = .ok (.ldiv, 1)) (h : stpI me .ldiv 1 pc ls st sh σ = some (.inl (pc', ls', st', sh', σ', dc, ds))) : Sim p l e R s m args below meth c me D cA A ad pc ls st sh σ pc' ls' st' sh' σ' dc ds := by
  unfold stpI at h
  dsimp only at h
  split at h
  · rename_i b r
    obtain ⟨h1, h2⟩ := gd_in h
    have h1 := of_decide_eq_true h1
    intro lsA H locs cells slots Q F
    exact S_bj _ _ (fun x y => x / y) (fun a b _ _ => ⟨ofto64 _, r64_of _⟩) (fun x y H locs cells slots Q lsA rest hy k => lv_ldiv B.1 B.2.1 hd (by rw [hy _ _ rfl]; exact ne0_64 F.hd h1) k) h2 lsA H locs cells slots Q F
  · cases h
theorem S_lrem (B : Bd p R s m args meth c me D cA A ad) (hd : decode (eB me) pc = .ok (.lrem, 1)) (h : stpI me .lrem 1 pc ls st sh σ = some (.inl (pc', ls', st', sh', σ', dc, ds))) : Sim p l e R s m args below meth c me D cA A ad pc ls st sh σ pc' ls' st' sh' σ' dc ds := by
  unfold stpI at h
  dsimp only at h
  split at h
  · rename_i b r
    obtain ⟨h1, h2⟩ := gd_in h
    have h1 := of_decide_eq_true h1
    intro lsA H locs cells slots Q F
    exact S_bj _ _ (fun x y => x - x / y * y) (fun a b _ _ => ⟨ofto64 _, r64_of _⟩) (fun x y H locs cells slots Q lsA rest hy k => lv_lrem B.1 B.2.1 hd (by rw [hy _ _ rfl]; exact ne0_64 F.hd h1) k) h2 lsA H locs cells slots Q F
  · cases h
theorem S_lushr (B : Bd p R s m args meth c me D cA A ad) (hd : decode (eB me) pc = .ok (.lushr, 1)) (h : stpI me .lushr 1 pc ls st sh σ = some (.inl (pc', ls', st', sh', σ', dc, ds))) : Sim p l e R s m args below meth c me D cA A ad pc ls st sh σ pc' ls' st' sh' σ' dc ds := by
  unfold stpI at h
  dsimp only at h
  split at h
  · rename_i b a r
    obtain ⟨rfl, rfl, rfl, rfl, rfl, rfl, rfl⟩ := nx_in h
    refine Sim_fr fun lsA H locs cells slots Q F kk => ?_
    have := kk lsA (F.tl.tl.push (v := .inr (.inl (jushr a b))) (r64_of _))
    simp only [List.map_cons, cV, jushr, ofto64] at this
    exact lv_lushr B.1 B.2.1 hd rfl this
  · cases h
theorem S_lcmp (B : Bd p R s m args meth c me D cA A ad) (hd : decode (eB me) pc = .ok (.lcmp, 1)) (h : stpI me .lcmp 1 pc ls st sh σ = some (.inl (pc', ls', st', sh', σ', dc, ds))) : Sim p l e R s m args below meth c me D cA A ad pc ls st sh σ pc' ls' st' sh' σ' dc ds := by
  unfold stpI at h
  dsimp only at h
  split at h
  · rename_i b a r
    obtain ⟨rfl, rfl, rfl, rfl, rfl, rfl, rfl⟩ := nx_in h
    refine Sim_fr fun lsA H locs cells slots Q F kk => ?_
    have hb := F.hd
    have ha := F.tl.hd
    have e1 : lg_cmp (Int64.ofInt a) (Int64.ofInt b) = Int32.ofInt (jcmp a b) := by
      unfold lg_cmp jcmp
      simp only [gt_iff_lt, Int64.lt_iff_toInt_lt, ← Int64.toInt_inj, of64 ha, of64 hb]
      split
      · rfl
      · split <;> rfl
    have e2 : r32 (jcmp a b) := by unfold jcmp; split; exact ⟨by decide, by decide⟩; split <;> exact ⟨by decide, by decide⟩
    have := kk lsA (F.tl.tl.push (v := .inl (jcmp a b)) e2)
    simp only [List.map_cons, cV, ← e1] at this
    exact W.lcmp B.1 B.2.1 hd this
  · cases h
theorem S_i2l (B : Bd p R s m args meth c me D cA A ad) (hd : decode (eB me) pc = .ok (.i2l, 1)) (h : stpI me .i2l 1 pc ls st sh σ = some (.inl (pc', ls', st', sh', σ', dc, ds))) : Sim p l e R s m args below meth c me D cA A ad pc ls st sh σ pc' ls' st' sh' σ' dc ds := by
  unfold stpI at h
  dsimp only at h
  split at h
  · rename_i a r
    obtain ⟨rfl, rfl, rfl, rfl, rfl, rfl, rfl⟩ := nx_in h
    refine Sim_fr fun lsA H locs cells slots Q F kk => ?_
    have ha : r32 a := F.hd
    have ha2 : r64 a := ⟨by have := ha.1; omega, by have := ha.2; omega⟩
    have := kk lsA (F.tl.push (v := .inr (.inl a)) ha2)
    exact lv_i2l B.1 B.2.1 hd (Int64.toInt_inj.mp (by rw [Int32.toInt_toInt64, of32 ha, of64 ha2])) this
  · cases h
theorem S_l2i (B : Bd p R s m args meth c me D cA A ad) (hd : decode (eB me) pc = .ok (.l2i, 1)) (h : stpI me .l2i 1 pc ls st sh σ = some (.inl (pc', ls', st', sh', σ', dc, ds))) : Sim p l e R s m args below meth c me D cA A ad pc ls st sh σ pc' ls' st' sh' σ' dc ds := by
  unfold stpI at h
  dsimp only at h
  split at h
  · rename_i a r
    obtain ⟨rfl, rfl, rfl, rfl, rfl, rfl, rfl⟩ := nx_in h
    refine Sim_fr fun lsA H locs cells slots Q F kk => ?_
    have := kk lsA (F.tl.push (v := .inl (w32 a)) (w32_r _))
    exact lv_l2i B.1 B.2.1 hd (by rw [of_w32, Int64.toInt32_ofInt]) this
  · cases h
theorem S_i2b (B : Bd p R s m args meth c me D cA A ad) (hd : decode (eB me) pc = .ok (.i2b, 1)) (h : stpI me .i2b 1 pc ls st sh σ = some (.inl (pc', ls', st', sh', σ', dc, ds))) : Sim p l e R s m args below meth c me D cA A ad pc ls st sh σ pc' ls' st' sh' σ' dc ds := by
  unfold stpI at h
  dsimp only at h
  split at h
  · rename_i a r
    obtain ⟨rfl, rfl, rfl, rfl, rfl, rfl, rfl⟩ := nx_in h
    refine Sim_fr fun lsA H locs cells slots Q F kk => ?_
    have ha : r32 a := F.hd
    have h8 : r32 (w8 a) := by
      unfold w8
      have h1 := Int.bmod_lt (x := a) (m := 256) (by decide)
      have h2 := Int.le_bmod (x := a) (m := 256) (by decide)
      exact ⟨by omega, by omega⟩
    have := kk lsA (F.tl.push (v := .inl (w8 a)) h8)
    exact lv_i2b B.1 B.2.1 hd (Int32.toInt_inj.mp (by rw [Int8.toInt_toInt32, Int32.toInt_toInt8, of32 ha, of32 h8]; rfl)) this
  · cases h
theorem S_iinc {i : Nat} {n : Int} (B : Bd p R s m args meth c me D cA A ad) (hd : decode (eB me) pc = .ok (.iinc i n, 3)) (h : stpI me (.iinc i n) 3 pc ls st sh σ = some (.inl (pc', ls', st', sh', σ', dc, ds))) : Sim p l e R s m args below meth c me D cA A ad pc ls st sh σ pc' ls' st' sh' σ' dc ds := by
  unfold stpI at h
  dsimp only at h
  split at h
  · rename_i a ha
    obtain ⟨h1, h2⟩ := gd_in h
    have h1 := of_decide_eq_true h1
    obtain ⟨rfl, rfl, rfl, rfl, rfl, rfl, rfl⟩ := nx_in h2
    refine Sim_fr fun lsA H locs cells slots Q F kk => ?_
    obtain ⟨k, hk⟩ := List.getElem?_of_mem (loc_mem (ad := ad) ls 0 i _ ha)
    rw [Nat.zero_add] at hk
    exact lv_iinc (v := Int32.ofInt (w32 (a + n))) B.1 B.2.1 hd F.1 hk (by rw [of_w32, Int32.ofInt_add]) (by rw [← F.2.1]; exact h1) rfl fun lsA' hl => kk lsA' ((F.push (v := .inl (w32 (a + n))) (w32_r _)).sto1 h1 hl)
  · cases h
theorem S_goto {off : Int} (B : Bd p R s m args meth c me D cA A ad) (hd : decode (eB me) pc = .ok (.goto off, 3)) (h : stpI me (.goto off) 3 pc ls st sh σ = some (.inl (pc', ls', st', sh', σ', dc, ds))) : Sim p l e R s m args below meth c me D cA A ad pc ls st sh σ pc' ls' st' sh' σ' dc ds := by
  obtain ⟨h1, h2⟩ := gd_in h
  have h1 := of_decide_eq_true h1
  obtain ⟨rfl, rfl, rfl, rfl, rfl, rfl, rfl⟩ := nx_in h2
  exact Sim_fr fun lsA H locs cells slots Q F kk => lv_goto B.1 B.2.1 hd (by unfold jmp; omega) (kk lsA F)
theorem S_ifCond {cn : Jvm.ClassFile.Cond} {off : Int} (B : Bd p R s m args meth c me D cA A ad) (hd : decode (eB me) pc = .ok (.ifCond cn off, 3)) (h : stpI me (.ifCond cn off) 3 pc ls st sh σ = some (.inl (pc', ls', st', sh', σ', dc, ds))) : Sim p l e R s m args below meth c me D cA A ad pc ls st sh σ pc' ls' st' sh' σ' dc ds := by
  unfold stpI at h
  dsimp only at h
  split at h
  · rename_i a r
    obtain ⟨h1, h2⟩ := gd_in h
    have h1 := of_decide_eq_true h1
    obtain ⟨rfl, rfl, rfl, rfl, rfl, rfl, rfl⟩ := nx_in h2
    have ht : (pc : Int) + off = (jmp pc off : Int) := by unfold jmp; omega
    refine Sim_fr fun lsA H locs cells slots Q F kk => ?_
    have ha : r32 a := F.hd
    have kk := kk lsA F.tl
    cases cn with
    | eq =>
      refine lv_if_eq B.1 B.2.1 hd ht (fun q => ?_) (fun q => ?_)
      · rw [← of0, eq32 ha r32_0] at q; rw [if_pos (by rw [cnd_eq]; exact q)] at kk; exact kk
      · rw [← of0, eq32 ha r32_0] at q; rw [if_neg (by rw [cnd_eq]; exact q)] at kk; exact kk
    | ne =>
      refine lv_if_ne B.1 B.2.1 hd ht (fun q => ?_) (fun q => ?_)
      · rw [← of0, eq32 ha r32_0] at q; rw [if_pos (by rw [cnd_ne]; exact q)] at kk; exact kk
      · rw [← of0, eq32 ha r32_0] at q; rw [if_neg (by rw [cnd_ne]; exact fun z => z q)] at kk; exact kk
    | lt =>
      refine lv_if_lt B.1 B.2.1 hd ht (fun q => ?_) (fun q => ?_)
      · rw [← of0, lt32 ha r32_0] at q; rw [if_pos (by rw [cnd_lt]; exact q)] at kk; exact kk
      · rw [← of0, lt32 ha r32_0] at q; rw [if_neg (by rw [cnd_lt]; exact q)] at kk; exact kk
    | ge =>
      refine lv_if_ge B.1 B.2.1 hd ht (fun q => ?_) (fun q => ?_)
      · rw [← of0, le32 r32_0 ha] at q; rw [if_pos (by rw [cnd_ge]; exact q)] at kk; exact kk
      · rw [← of0, le32 r32_0 ha] at q; rw [if_neg (by rw [cnd_ge]; exact q)] at kk; exact kk
    | gt =>
      refine lv_if_gt B.1 B.2.1 hd ht (fun q => ?_) (fun q => ?_)
      · rw [← of0, lt32 r32_0 ha] at q; rw [if_pos (by rw [cnd_gt]; exact q)] at kk; exact kk
      · rw [← of0, lt32 r32_0 ha] at q; rw [if_neg (by rw [cnd_gt]; exact q)] at kk; exact kk
    | le =>
      refine lv_if_le B.1 B.2.1 hd ht (fun q => ?_) (fun q => ?_)
      · rw [← of0, le32 ha r32_0] at q; rw [if_pos (by rw [cnd_le]; exact q)] at kk; exact kk
      · rw [← of0, le32 ha r32_0] at q; rw [if_neg (by rw [cnd_le]; exact q)] at kk; exact kk
  · cases h
theorem S_if_icmp {cn : Jvm.ClassFile.Cond} {off : Int} (B : Bd p R s m args meth c me D cA A ad) (hd : decode (eB me) pc = .ok (.if_icmp cn off, 3)) (h : stpI me (.if_icmp cn off) 3 pc ls st sh σ = some (.inl (pc', ls', st', sh', σ', dc, ds))) : Sim p l e R s m args below meth c me D cA A ad pc ls st sh σ pc' ls' st' sh' σ' dc ds := by
  unfold stpI at h
  dsimp only at h
  split at h
  · rename_i b a r
    obtain ⟨h1, h2⟩ := gd_in h
    have h1 := of_decide_eq_true h1
    obtain ⟨rfl, rfl, rfl, rfl, rfl, rfl, rfl⟩ := nx_in h2
    have ht : (pc : Int) + off = (jmp pc off : Int) := by unfold jmp; omega
    refine Sim_fr fun lsA H locs cells slots Q F kk => ?_
    have hb : r32 b := F.hd
    have ha : r32 a := F.tl.hd
    have kk := kk lsA F.tl.tl
    cases cn with
    | eq =>
      refine lv_icmp_eq B.1 B.2.1 hd ht (fun q => ?_) (fun q => ?_)
      · rw [eq32 ha hb] at q; rw [if_pos (by rw [cnd_eq]; exact q)] at kk; exact kk
      · rw [eq32 ha hb] at q; rw [if_neg (by rw [cnd_eq]; exact q)] at kk; exact kk
    | ne =>
      refine lv_icmp_ne B.1 B.2.1 hd ht (fun q => ?_) (fun q => ?_)
      · rw [eq32 ha hb] at q; rw [if_pos (by rw [cnd_ne]; exact q)] at kk; exact kk
      · rw [eq32 ha hb] at q; rw [if_neg (by rw [cnd_ne]; exact fun z => z q)] at kk; exact kk
    | lt =>
      refine lv_icmp_lt B.1 B.2.1 hd ht (fun q => ?_) (fun q => ?_)
      · rw [lt32 ha hb] at q; rw [if_pos (by rw [cnd_lt]; exact q)] at kk; exact kk
      · rw [lt32 ha hb] at q; rw [if_neg (by rw [cnd_lt]; exact q)] at kk; exact kk
    | ge =>
      refine lv_icmp_ge B.1 B.2.1 hd ht (fun q => ?_) (fun q => ?_)
      · rw [le32 hb ha] at q; rw [if_pos (by rw [cnd_ge]; exact q)] at kk; exact kk
      · rw [le32 hb ha] at q; rw [if_neg (by rw [cnd_ge]; exact q)] at kk; exact kk
    | gt =>
      refine lv_icmp_gt B.1 B.2.1 hd ht (fun q => ?_) (fun q => ?_)
      · rw [lt32 hb ha] at q; rw [if_pos (by rw [cnd_gt]; exact q)] at kk; exact kk
      · rw [lt32 hb ha] at q; rw [if_neg (by rw [cnd_gt]; exact q)] at kk; exact kk
    | le =>
      refine lv_icmp_le B.1 B.2.1 hd ht (fun q => ?_) (fun q => ?_)
      · rw [le32 ha hb] at q; rw [if_pos (by rw [cnd_le]; exact q)] at kk; exact kk
      · rw [le32 ha hb] at q; rw [if_neg (by rw [cnd_le]; exact q)] at kk; exact kk
  · cases h
end
