theorem swT_in {d x : Int} : ∀ (os : List Int) (lo : Int), lo ≤ x → x < lo + os.length → os[(x - lo).toNat]? = some (swT lo os d x) := by
  intro os
  induction os with
  | nil => intro lo h1 h2; simp at h2; omega
  | cons o os ih =>
    intro lo h1 h2
    simp only [swT]
    split
    · rename_i h; subst h; simp
    · rename_i h
      have := ih (lo + 1) (by omega) (by simp at h2; omega)
      rw [show (x - lo).toNat = (x - (lo + 1)).toNat + 1 by omega, List.getElem?_cons_succ]
      exact this
theorem swT_out {d x : Int} : ∀ (os : List Int) (lo : Int), x < lo ∨ lo + os.length ≤ x → swT lo os d x = d := by
  intro os
  induction os with
  | nil => intro lo h; rfl
  | cons o os ih =>
    intro lo h
    simp only [swT]
    rw [if_neg (by simp at h; omega)]
    exact ih (lo + 1) (by simp at h; omega)
theorem lk_off {d x : Int} : ∀ (ps : List (Int × Int)), Op.lookupswitch.offset ps d x = lkT ps d x := by
  intro ps
  induction ps with
  | nil => rfl
  | cons q ps ih =>
    obtain ⟨a, o⟩ := q
    rw [Op.lookupswitch.offset_cons, lkT, ih]
    by_cases h : x = a
    · subst h; simp
    · rw [if_neg h, if_neg]
      first | exact h | exact fun z => h z.symm
theorem aln_pos {sh : List Kd} {ty : FieldType} {k : Nat} {i : Int} (h0 : 0 ≤ i) (h : i < aln sh ty k) : ∃ n : Nat, sh[k]? = some (.inr (.inl (ty, n))) ∧ i < n := by
  unfold aln at h
  split at h
  · rename_i t n hk
    by_cases ht : t = ty
    · subst ht
      rw [if_pos rfl] at h
      exact ⟨n, hk, h⟩
    · rw [if_neg ht] at h; omega
  · omega
theorem len_of {sh : List Kd} {k : Nat} {q : Kd} (h : sh[k]? = some q) : k < sh.length := (List.getElem?_eq_some_iff.mp h).1
theorem ty_int {cA : FieldType → ClassId} : (axtys cA)[0]? = some (cA .int, .int) := rfl
theorem ty_byte {cA : FieldType → ClassId} : (axtys cA)[1]? = some (cA .byte, .byte) := rfl
theorem ty_bool {cA : FieldType → ClassId} : (axtys cA)[2]? = some (cA .boolean, .boolean) := rfl
theorem ty_obj {cA : FieldType → ClassId} : (axtys cA)[3]? = some (cA (.object RX8), .object RX8) := rfl
theorem up_same {σ : Sto} {k : Nat} {i v : Int} : ∀ j, j ≠ k → up σ k i v j = σ j := fun j hj => by funext z; simp [up, hj]
theorem up_upd {σ : Sto} {k : Nat} {i v : Int} (hi : r32 i) (h0 : 0 ≤ i) {x : Int32} (hx : x = Int32.ofInt v) : (fun j : Nat => Int32.ofInt (up σ k i v k j)) = upd (fun j : Nat => Int32.ofInt (σ k j)) (Int32.ofInt i).toNatClampNeg x := by
  funext j
  have hc := cl32 hi h0
  simp only [upd, up]
  by_cases h : j = (Int32.ofInt i).toNatClampNeg
  · rw [if_pos h, if_pos ⟨trivial, by omega⟩, hx]
  · rw [if_neg h, if_neg (by rintro ⟨-, q⟩; omega)]
theorem sOK_up {sh : List Kd} {σ : Sto} {k : Nat} {i v : Int} {q : Kd} (hs : sOK sh σ) (hq : sh[k]? = some q) (hk : kOK sh.length (up σ k i v k) q) : sOK sh (up σ k i v) := by
  intro k' q' h
  by_cases e : k' = k
  · subst e; rw [hq] at h; cases h; exact hk
  · rw [up_same k' e]; exact hs k' q' h
section
variable {p : Program} {l : Launch} {e : Env} {R : Room} {s : State} {m : MethodId} {args : Array Value} {below : List Frame} {meth : Method} {c : Code} {me : MEnt} {D : va_G} {cA : FieldType → ClassId} {A : Nat → Prop} {ad : Nat → Nat} {pc : Nat} {ls : Lcs} {st : List AV} {sh : List Kd} {σ : Sto} {pc' : Nat} {ls' : Lcs} {st' : List AV} {sh' : List Kd} {σ' : Sto} {dc ds : Nat}
theorem S_tableswitch {dt lo hi : Int} {os : Array Int} {len : Nat} (B : Bd p R s m args meth c me D cA A ad) (hd : decode (eB me) pc = .ok (.tableswitch dt lo hi os, len)) (h : stpI me (.tableswitch dt lo hi os) len pc ls st sh σ = some (.inl (pc', ls', st', sh', σ', dc, ds))) : Sim p l e R s m args below meth c me D cA A ad pc ls st sh σ pc' ls' st' sh' σ' dc ds := by
  unfold stpI at h
  dsimp only at h
  split at h
  · rename_i x r
    obtain ⟨h1, h2⟩ := gd_in h
    simp only [Bool.and_eq_true, decide_eq_true_eq] at h1
    obtain ⟨rfl, rfl, rfl, rfl, rfl, rfl, rfl⟩ := nx_in h2
    refine Sim_fr fun lsA H locs cells slots Q F kk => ?_
    have hx := of32 (F.hd : r32 x)
    have kk := kk lsA F.tl
    have hsz : os.toList.length = os.size := by simp
    by_cases q : x < lo ∨ hi < x
    · have e1 := swT_out (d := dt) (x := x) os.toList lo (by rw [hsz]; omega)
      rw [e1] at kk h1
      exact lv_tableOut B.1 B.2.1 hd (by rw [hx]; exact q) (by unfold jmp; omega) kk
    · have e1 := swT_in (d := dt) (x := x) os.toList lo (by omega) (by rw [hsz]; omega)
      exact lv_tableIn B.1 B.2.1 hd (by rw [hx]; omega) (by rw [hx]; omega) (by rw [hx, ← Array.getElem?_toList]; exact e1) (by unfold jmp; omega) kk
  · cases h
theorem S_lookupswitch {dt : Int} {ps : Array (Int × Int)} {len : Nat} (B : Bd p R s m args meth c me D cA A ad) (hd : decode (eB me) pc = .ok (.lookupswitch dt ps, len)) (h : stpI me (.lookupswitch dt ps) len pc ls st sh σ = some (.inl (pc', ls', st', sh', σ', dc, ds))) : Sim p l e R s m args below meth c me D cA A ad pc ls st sh σ pc' ls' st' sh' σ' dc ds := by
  unfold stpI at h
  dsimp only at h
  split at h
  · rename_i x r
    obtain ⟨h1, h2⟩ := gd_in h
    rw [Bool.and_eq_true, decide_eq_true_eq] at h1
    obtain ⟨rfl, rfl, rfl, rfl, rfl, rfl, rfl⟩ := nx_in h2
    refine Sim_fr fun lsA H locs cells slots Q F kk => ?_
    have hx := of32 (F.hd : r32 x)
    exact lv_lookup (off := lkT ps.toList dt x) B.1 B.2.1 hd h1.1 (by rw [hx]; exact lk_off _) (by unfold jmp; omega) (kk lsA F.tl)
  · cases h
theorem Wo.val {H : Heap} {locs : List Loc} {k : Nat} {i : Int} {ty : FieldType} {n : Nat} (Wd : Wo s D cA ad A H locs sh σ) (hk : sh[k]? = some (.inr (.inl (ty, n)))) (h0 : 0 ≤ i) (h1 : i < n) : tOK ty (σ k i) := by
  have := Wd.2.2.2.1 k _ hk i.toNat (by omega)
  rwa [show ((i.toNat : Nat) : Int) = i by omega] at this
theorem S_iaload (B : Bd p R s m args meth c me D cA A ad) (hd : decode (eB me) pc = .ok (.iaload, 1)) (h : stpI me .iaload 1 pc ls st sh σ = some (.inl (pc', ls', st', sh', σ', dc, ds))) : Sim p l e R s m args below meth c me D cA A ad pc ls st sh σ pc' ls' st' sh' σ' dc ds := by
  unfold stpI at h
  dsimp only at h
  split at h
  · rename_i i k r
    split at h
    · obtain ⟨h1, h2⟩ := gd_in h
      simp only [Bool.and_eq_true, decide_eq_true_eq] at h1
      obtain ⟨n, hk, hn⟩ := aln_pos h1.1 h1.2
      obtain ⟨rfl, rfl, rfl, rfl, rfl, rfl, rfl⟩ := nx_in h2
      intro lsA H locs cells slots Q F Wd _ _ kk
      have hi : r32 i := F.hd
      have kk := kk ad lsA H locs Ag.rf (F.tl.tl.push (v := .inl (σ k i)) (Wd.val hk h1.1 hn)) Wd (Nat.le_refl _)
      refine va_iald B.1 B.2.1 B.2.2.2.2.2.2.2.2.1 Wd.1 k 0 (wl_at hk) ty_int (in32 hi h1.1 hn) hd ?_
      rw [cl32 hi h1.1]
      exact kk
    · rename_i hk
      obtain ⟨h1, h2⟩ := gd_in h
      simp only [Bool.and_eq_true, decide_eq_true_eq] at h1
      obtain ⟨rfl, rfl, rfl, rfl, rfl, rfl, rfl⟩ := nx_in h2
      intro lsA H locs cells slots Q F Wd _ _ kk
      have hi : r32 i := F.hd
      obtain ⟨hx, hb, hr, hml, hown, hts, hlocks, hin, hK, hA, hX, hV, hfr, hlo⟩ := B
      have hk2 : k = 1001 ∨ k = 1002 ∨ k = 1003 := by
        by_cases a1 : k = 1001
        · exact Or.inl a1
        · by_cases a2 : k = 1002
          · exact Or.inr (Or.inl a2)
          · by_cases a3 : k = 1003
            · exact Or.inr (Or.inr a3)
            · exfalso
              have : xln .int k = [] := by
                unfold xln
                split <;> first | rfl | (simp_all; done) | (exfalso; omega)
              rw [this] at h1
              simp at h1
              omega
      have hx5 : (xln .int k).length = 5 := by rcases hk2 with rfl | rfl | rfl <;> rfl
      have hxt : xty k = .int := by rcases hk2 with rfl | rfl | rfl <;> rfl
      have hT := (hX.1 k (by omega) (by omega)).2
      rw [hxt] at hT
      have hv : vOK sh.length (.inl ((xln .int k).getD i.toNat 0)) := by
        have hi5 : i.toNat < 5 := by omega
        rcases hk2 with rfl | rfl | rfl <;> (show r32 _) <;> (generalize i.toNat = j at hi5; rcases j with _ | _ | _ | _ | _ | j) <;> first | exact ⟨by decide, by decide⟩ | omega
      have kk := kk ad lsA H locs Ag.rf (F.tl.tl.push hv) Wd (Nat.le_refl _)
      exact va_ti hx hb hT Wd.2.2.1 (in32 hi h1.1 (by omega)) (by rw [clN32 hi]; rfl) hd kk
  · cases h
theorem S_caload (B : Bd p R s m args meth c me D cA A ad) (hd : decode (eB me) pc = .ok (.caload, 1)) (h : stpI me .caload 1 pc ls st sh σ = some (.inl (pc', ls', st', sh', σ', dc, ds))) : Sim p l e R s m args below meth c me D cA A ad pc ls st sh σ pc' ls' st' sh' σ' dc ds := by
  unfold stpI at h
  dsimp only at h
  split at h
  · rename_i i k r
    obtain ⟨h1, h2⟩ := gd_in h
    simp only [Bool.and_eq_true, decide_eq_true_eq] at h1
    obtain ⟨⟨rfl, h0⟩, hn⟩ := h1
    obtain ⟨rfl, rfl, rfl, rfl, rfl, rfl, rfl⟩ := nx_in h2
    intro lsA H locs cells slots Q F Wd _ _ kk
    have hi : r32 i := F.hd
    have hn5 : i < 5 := hn
    have hT := (B.2.2.2.2.2.2.2.2.2.2.1.1 1000 (by omega) (by omega)).2
    have hv : vOK sh.length (.inl ((xln .char 1000).getD i.toNat 0)) := by
      have hi5 : i.toNat < 5 := by omega
      (show r32 _) <;> (generalize i.toNat = j at hi5; rcases j with _ | _ | _ | _ | _ | j) <;> first | exact ⟨by decide, by decide⟩ | omega
    have kk := kk ad lsA H locs Ag.rf (F.tl.tl.push hv) Wd (Nat.le_refl _)
    exact va_tc B.1 B.2.1 hT Wd.2.2.1 (in32 hi h0 hn5) (by rw [clN32 hi]; rfl) hd kk
  · cases h
theorem S_iastore (B : Bd p R s m args meth c me D cA A ad) (hd : decode (eB me) pc = .ok (.iastore, 1)) (h : stpI me .iastore 1 pc ls st sh σ = some (.inl (pc', ls', st', sh', σ', dc, ds))) : Sim p l e R s m args below meth c me D cA A ad pc ls st sh σ pc' ls' st' sh' σ' dc ds := by
  unfold stpI at h
  dsimp only at h
  split at h
  · rename_i v i k r
    obtain ⟨h1, h2⟩ := gd_in h
    simp only [Bool.and_eq_true, decide_eq_true_eq] at h1
    obtain ⟨n, hk, hn⟩ := aln_pos h1.1 h1.2
    obtain ⟨rfl, rfl, rfl, rfl, rfl, rfl, rfl⟩ := nx_in h2
    intro lsA H locs cells slots Q F Wd _ _ kk
    have hv : r32 v := F.hd
    have hi : r32 i := F.tl.hd
    have e1 : (wl ad cA sh σ).set k (ad k, .inl (cA .int, n, .inl (upd (fun j : Nat => Int32.ofInt (σ k j)) (Int32.ofInt i).toNatClampNeg (Int32.ofInt v)))) = wl ad cA sh (up σ k i v) := by
      rw [← up_upd hi h1.1 rfl]
      exact wl_set (q := .inr (.inl (.int, n))) (len_of hk) rfl hk (fun _ _ => rfl) up_same
    refine va_iast B.1 B.2.1 B.2.2.2.2.2.2.2.2.1 Wd.1 Wd.2.1 Wd.2.2.1 k 0 (wl_at hk) ty_int (in32 hi h1.1 hn) hd fun H1 locs1 hP1 hD1 hS1 => ?_
    rw [e1] at hP1 hD1
    refine kk ad lsA H1 locs1 Ag.rf F.tl.tl.tl ⟨hP1, hD1, hS1, sOK_up Wd.2.2.2.1 hk ?_, Wd.2.2.2.2⟩ (Nat.le_refl _)
    intro j hj
    show r32 _
    by_cases q : (j : Int) = i
    · simp only [up, q, and_self, if_true]; exact hv
    · simp only [up, q, and_false, if_false]; exact Wd.2.2.2.1 k _ hk j hj
  · cases h
theorem alnB_pos {k : Nat} {i : Int} (h0 : 0 ≤ i) (h : i < alnB sh k) : ∃ n : Nat, i < n ∧ (sh[k]? = some (.inr (.inl (.byte, n))) ∨ sh[k]? = some (.inr (.inl (.boolean, n)))) := by
  unfold alnB at h
  split at h
  · rename_i n hk; exact ⟨n, h, Or.inl hk⟩
  · rename_i n hk; exact ⟨n, h, Or.inr hk⟩
  · omega
theorem S_baload (B : Bd p R s m args meth c me D cA A ad) (hd : decode (eB me) pc = .ok (.baload, 1)) (h : stpI me .baload 1 pc ls st sh σ = some (.inl (pc', ls', st', sh', σ', dc, ds))) : Sim p l e R s m args below meth c me D cA A ad pc ls st sh σ pc' ls' st' sh' σ' dc ds := by
  unfold stpI at h
  dsimp only at h
  split at h
  · rename_i i k r
    obtain ⟨h1, h2⟩ := gd_in h
    simp only [Bool.and_eq_true, decide_eq_true_eq] at h1
    obtain ⟨n, hn, hk⟩ := alnB_pos h1.1 h1.2
    obtain ⟨rfl, rfl, rfl, rfl, rfl, rfl, rfl⟩ := nx_in h2
    intro lsA H locs cells slots Q F Wd _ _ kk
    have hi : r32 i := F.hd
    rcases hk with hk | hk
    · have hv : r32 (σ k i) := by have : -128 ≤ σ k i ∧ σ k i ≤ 127 := Wd.val hk h1.1 hn; exact ⟨by omega, by omega⟩
      have kk := kk ad lsA H locs Ag.rf (F.tl.tl.push (v := .inl (σ k i)) hv) Wd (Nat.le_refl _)
      refine va_bald B.1 B.2.1 B.2.2.2.2.2.2.2.2.1 Wd.1 k 1 (wl_at hk) ty_byte (in32 hi h1.1 hn) hd ?_
      rw [cl32 hi h1.1]
      exact kk
    · have hv : r32 (σ k i) := by have : σ k i = 0 ∨ σ k i = 1 := Wd.val hk h1.1 hn; exact ⟨by omega, by omega⟩
      have kk := kk ad lsA H locs Ag.rf (F.tl.tl.push (v := .inl (σ k i)) hv) Wd (Nat.le_refl _)
      refine va_zald B.1 B.2.1 B.2.2.2.2.2.2.2.2.1 Wd.1 k 2 (wl_at hk) ty_bool (in32 hi h1.1 hn) hd ?_
      rw [cl32 hi h1.1]
      exact kk
  · cases h
theorem nar_byte {v : Int} (h1 : -128 ≤ v) (h2 : v ≤ 127) : vp_nar .byte (Int32.ofInt v) = Int32.ofInt v := by
  rw [vp_nar_byte]
  apply Int32.toInt_inj.mp
  rw [Int8.toInt_toInt32, Int32.toInt_toInt8, of32 ⟨by omega, by omega⟩]
  rw [Int.bmod_eq_of_le] <;> omega
theorem nar_bool {v : Int} (h : v = 0 ∨ v = 1) : vp_nar .boolean (Int32.ofInt v) = Int32.ofInt v := by
  rcases h with rfl | rfl <;> rfl
theorem S_bastore (B : Bd p R s m args meth c me D cA A ad) (hd : decode (eB me) pc = .ok (.bastore, 1)) (h : stpI me .bastore 1 pc ls st sh σ = some (.inl (pc', ls', st', sh', σ', dc, ds))) : Sim p l e R s m args below meth c me D cA A ad pc ls st sh σ pc' ls' st' sh' σ' dc ds := by
  unfold stpI at h
  dsimp only at h
  split at h
  · rename_i v i k r
    obtain ⟨h1, h2⟩ := gd_in h
    simp only [Bool.and_eq_true, decide_eq_true_eq] at h1
    obtain ⟨h1, hst⟩ := h1
    obtain ⟨n, hn, hk⟩ := alnB_pos h1.1 h1.2
    obtain ⟨rfl, rfl, rfl, rfl, rfl, rfl, rfl⟩ := nx_in h2
    intro lsA H locs cells slots Q F Wd _ _ kk
    have hi : r32 i := F.tl.hd
    rcases hk with hk | hk
    · have hv : -128 ≤ v ∧ v ≤ 127 := by simpa [stB, hk] using hst
      have e1 : (wl ad cA sh σ).set k (ad k, .inl (cA .byte, n, .inl (upd (fun j : Nat => Int32.ofInt (σ k j)) (Int32.ofInt i).toNatClampNeg (vp_nar .byte (Int32.ofInt v))))) = wl ad cA sh (up σ k i v) := by
        rw [← up_upd hi h1.1 (nar_byte hv.1 hv.2)]
        exact wl_set (q := .inr (.inl (.byte, n))) (len_of hk) rfl hk (fun _ _ => rfl) up_same
      refine va_bast B.1 B.2.1 B.2.2.2.2.2.2.2.2.1 Wd.1 Wd.2.1 Wd.2.2.1 k 1 (wl_at hk) ty_byte (in32 hi h1.1 hn) hd fun H1 locs1 hP1 hD1 hS1 => ?_
      rw [e1] at hP1 hD1
      refine kk ad lsA H1 locs1 Ag.rf F.tl.tl.tl ⟨hP1, hD1, hS1, sOK_up Wd.2.2.2.1 hk ?_, Wd.2.2.2.2⟩ (Nat.le_refl _)
      intro j hj
      show -128 ≤ _ ∧ _ ≤ _
      by_cases q : (j : Int) = i
      · simp only [up, q, and_self, if_true]; exact hv
      · simp only [up, q, and_false, if_false]; exact Wd.2.2.2.1 k _ hk j hj
    · have hv : v = 0 ∨ v = 1 := by simpa [stB, hk] using hst
      have e1 : (wl ad cA sh σ).set k (ad k, .inl (cA .boolean, n, .inl (upd (fun j : Nat => Int32.ofInt (σ k j)) (Int32.ofInt i).toNatClampNeg (vp_nar .boolean (Int32.ofInt v))))) = wl ad cA sh (up σ k i v) := by
        rw [← up_upd hi h1.1 (nar_bool hv)]
        exact wl_set (q := .inr (.inl (.boolean, n))) (len_of hk) rfl hk (fun _ _ => rfl) up_same
      refine va_zast B.1 B.2.1 B.2.2.2.2.2.2.2.2.1 Wd.1 Wd.2.1 Wd.2.2.1 k 2 (wl_at hk) ty_bool (in32 hi h1.1 hn) hd fun H1 locs1 hP1 hD1 hS1 => ?_
      rw [e1] at hP1 hD1
      refine kk ad lsA H1 locs1 Ag.rf F.tl.tl.tl ⟨hP1, hD1, hS1, sOK_up Wd.2.2.2.1 hk ?_, Wd.2.2.2.2⟩ (Nat.le_refl _)
      intro j hj
      show _ = 0 ∨ _ = 1
      by_cases q : (j : Int) = i
      · simp only [up, q, and_self, if_true]; exact hv
      · simp only [up, q, and_false, if_false]; exact Wd.2.2.2.1 k _ hk j hj
  · cases h
theorem S_getstatic {idx : Nat} (B : Bd p R s m args meth c me D cA A ad) (hd : decode (eB me) pc = .ok (.getstatic idx, 3)) (h : stpI me (.getstatic idx) 3 pc ls st sh σ = some (.inl (pc', ls', st', sh', σ', dc, ds))) : Sim p l e R s m args below meth c me D cA A ad pc ls st sh σ pc' ls' st' sh' σ' dc ds := by
  obtain ⟨hx, hb, hr, hml, hown, hts, hlocks, hin, hK, hA, hX, hV, hfr, hlo⟩ := B
  unfold stpI at h
  dsimp only at h
  split at h
  · rename_i k z hlk
    obtain ⟨rfl, rfl, rfl, rfl, rfl, rfl, rfl⟩ := nx_in h
    have hk := axG_ok _ _ (lookup_mem hlk)
    simp only [okGb, Bool.and_eq_true, decide_eq_true_eq] at hk
    intro lsA H locs cells slots Q F Wd _ _ kk
    have kk := kk ad lsA H locs Ag.rf (F.push (v := .inr (.inr (some k))) (fun j hj => by cases hj; omega)) Wd (Nat.le_refl _)
    exact va_gets hx hb (hX.1 k hk.1.2 hk.2).1 Wd.2.2.1 hown (hts _ (gw_of hk.1.1 rfl)) (fun _ h9 => h9) hd kk
  · cases h
end
