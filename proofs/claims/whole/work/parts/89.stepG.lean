section
variable {p : Program} {l : Launch} {e : Env} {R : Room} {s : State} {m : MethodId} {args : Array Value} {below : List Frame} {meth : Method} {c : Code} {me : MEnt} {D : va_G} {cA : FieldType → ClassId} {A : Nat → Prop} {ad : Nat → Nat} {pc : Nat} {ls : Lcs} {st : List AV} {sh : List Kd} {σ : Sto} {pc' : Nat} {ls' : Lcs} {st' : List AV} {sh' : List Kd} {σ' : Sto} {dc ds : Nat}
theorem S_invokevirtual {idx : Nat} (B : Bd p R s m args meth c me D cA A ad) (hd : decode (eB me) pc = .ok (.invokevirtual idx, 3)) (h : stpI me (.invokevirtual idx) 3 pc ls st sh σ = some (.inl (pc', ls', st', sh', σ', dc, ds))) : Sim p l e R s m args below meth c me D cA A ad pc ls st sh σ pc' ls' st' sh' σ' dc ds := sorry
end
section
variable {p : Program} {l : Launch} {e : Env} {R : Room} {s : State} {m : MethodId} {args : Array Value} {below : List Frame} {meth : Method} {c : Code} {me : MEnt} {D : va_G} {cA : FieldType → ClassId} {A : Nat → Prop} {ad : Nat → Nat} {pc : Nat} {ls : Lcs} {st : List AV} {sh : List Kd} {σ : Sto} {pc' : Nat} {ls' : Lcs} {st' : List AV} {sh' : List Kd} {σ' : Sto} {dc ds : Nat}
theorem ln_eq {a b : Nat} (h : (a == b) = true) : a = b := by simpa using h
/-- each step of the abstract machine within a method is one of the claim's machine -/
theorem stp_sim (B : Bd p R s m args meth c me D cA A ad) (h : stp me pc ls st sh σ = some (.inl (pc', ls', st', sh', σ', dc, ds))) : Sim p l e R s m args below meth c me D cA A ad pc ls st sh σ pc' ls' st' sh' σ' dc ds := by
  unfold stp at h
  split at h
  · rename_i i len hd
    split at h
    · rename_i hn
      cases i with
      | iadd => cases ln_eq (b := 1) hn; exact S_iadd B hd h
      | isub => cases ln_eq (b := 1) hn; exact S_isub B hd h
      | imul => cases ln_eq (b := 1) hn; exact S_imul B hd h
      | iand => cases ln_eq (b := 1) hn; exact S_iand B hd h
      | ior => cases ln_eq (b := 1) hn; exact S_ior B hd h
      | ixor => cases ln_eq (b := 1) hn; exact S_ixor B hd h
      | ishl => cases ln_eq (b := 1) hn; exact S_ishl B hd h
      | ishr => cases ln_eq (b := 1) hn; exact S_ishr B hd h
      | iushr => cases ln_eq (b := 1) hn; exact S_iushr B hd h
      | idiv => cases ln_eq (b := 1) hn; exact S_idiv B hd h
      | irem => cases ln_eq (b := 1) hn; exact S_irem B hd h
      | ineg => cases ln_eq (b := 1) hn; exact S_ineg B hd h
      | ladd => cases ln_eq (b := 1) hn; exact S_ladd B hd h
      | lsub => cases ln_eq (b := 1) hn; exact S_lsub B hd h
      | lmul => cases ln_eq (b := 1) hn; exact S_lmul B hd h
      | ldiv => cases ln_eq (b := 1) hn; exact S_ldiv B hd h
      | lrem => cases ln_eq (b := 1) hn; exact S_lrem B hd h
      | lushr => cases ln_eq (b := 1) hn; exact S_lushr B hd h
      | lcmp => cases ln_eq (b := 1) hn; exact S_lcmp B hd h
      | i2l => cases ln_eq (b := 1) hn; exact S_i2l B hd h
      | l2i => cases ln_eq (b := 1) hn; exact S_l2i B hd h
      | i2b => cases ln_eq (b := 1) hn; exact S_i2b B hd h
      | dup => cases ln_eq (b := 1) hn; exact S_dup B hd h
      | dup2 => cases ln_eq (b := 1) hn; exact S_dup2 B hd h
      | pop => cases ln_eq (b := 1) hn; exact S_pop B hd h
      | iaload => cases ln_eq (b := 1) hn; exact S_iaload B hd h
      | caload => cases ln_eq (b := 1) hn; exact S_caload B hd h
      | iastore => cases ln_eq (b := 1) hn; exact S_iastore B hd h
      | baload => cases ln_eq (b := 1) hn; exact S_baload B hd h
      | bastore => cases ln_eq (b := 1) hn; exact S_bastore B hd h
      | aaload => cases ln_eq (b := 1) hn; exact S_aaload B hd h
      | aastore => cases ln_eq (b := 1) hn; exact S_aastore B hd h
      | iload i => cases ln_eq (b := 2) hn; exact S_iload B hd h
      | lload i => cases ln_eq (b := 2) hn; exact S_lload B hd h
      | aload i => cases ln_eq (b := 2) hn; exact S_aload B hd h
      | istore i => cases ln_eq (b := 2) hn; exact S_istore B hd h
      | lstore i => cases ln_eq (b := 2) hn; exact S_lstore B hd h
      | astore i => cases ln_eq (b := 2) hn; exact S_astore B hd h
      | iload_n i => cases ln_eq (b := 1) hn; exact S_iload_n B hd h
      | lload_n i => cases ln_eq (b := 1) hn; exact S_lload_n B hd h
      | aload_n i => cases ln_eq (b := 1) hn; exact S_aload_n B hd h
      | istore_n i => cases ln_eq (b := 1) hn; exact S_istore_n B hd h
      | lstore_n i => cases ln_eq (b := 1) hn; exact S_lstore_n B hd h
      | astore_n i => cases ln_eq (b := 1) hn; exact S_astore_n B hd h
      | iconst n => cases ln_eq (b := 1) hn; exact S_iconst B hd h
      | bipush n => cases ln_eq (b := 2) hn; exact S_bipush B hd h
      | sipush n => cases ln_eq (b := 3) hn; exact S_sipush B hd h
      | lconst n => cases ln_eq (b := 1) hn; exact S_lconst B hd h
      | ldc i => cases ln_eq (b := 2) hn; exact S_ldc B hd h
      | ldc_w i => cases ln_eq (b := 3) hn; exact S_ldc_w B hd h
      | ldc2_w i => cases ln_eq (b := 3) hn; exact S_ldc2_w B hd h
      | getstatic i => cases ln_eq (b := 3) hn; exact S_getstatic B hd h
      | getfield i => cases ln_eq (b := 3) hn; exact S_getfield B hd h
      | putfield i => cases ln_eq (b := 3) hn; exact S_putfield B hd h
      | new i => cases ln_eq (b := 3) hn; exact S_new B hd h
      | newarray t => cases ln_eq (b := 2) hn; exact S_newarray B hd h
      | anewarray i => cases ln_eq (b := 3) hn; exact S_anewarray B hd h
      | invokestatic i => cases ln_eq (b := 3) hn; exact S_invokestatic B hd h
      | invokespecial i => cases ln_eq (b := 3) hn; exact S_invokespecial B hd h
      | invokevirtual i => cases ln_eq (b := 3) hn; exact S_invokevirtual B hd h
      | goto o => cases ln_eq (b := 3) hn; exact S_goto B hd h
      | iinc i n => cases ln_eq (b := 3) hn; exact S_iinc B hd h
      | ifCond cn o => cases ln_eq (b := 3) hn; exact S_ifCond B hd h
      | if_icmp cn o => cases ln_eq (b := 3) hn; exact S_if_icmp B hd h
      | lookupswitch dt ps => exact S_lookupswitch B hd h
      | tableswitch dt lo hi os => exact S_tableswitch B hd h
      | ireturn =>
        exfalso
        unfold stpI at h
        dsimp only at h
        split at h <;> first | (cases h; done) | (cases (gd_in h).2; done)
      | lreturn =>
        exfalso
        unfold stpI at h
        dsimp only at h
        split at h <;> first | (cases h; done) | (cases (gd_in h).2; done)
      | return_ =>
        exfalso
        unfold stpI at h
        dsimp only at h
        split at h <;> first | (cases h; done) | (cases (gd_in h).2; done)
      | _ => cases h
    · cases h
  · cases h
end
