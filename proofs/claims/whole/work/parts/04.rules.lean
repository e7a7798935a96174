-- the abstract machine's rules, an equation an instruction (rows of the program's own instructions rest on these)
section
variable {d : Nat} {e : MEnt} {pc : Nat} {ls : Lcs} {st : List AV} {sh : List Kd} {σ : Sto} {Q : Option AV → List Kd → Sto → Prop}
theorem stp_ok {i : Instr} {len : Nat} {x : Option Rs} (hd : decOK e pc (i) len) (h : stpI e i len pc ls st sh σ = x) : stp e pc ls st sh σ = x := by
  rw [stp, hd.1]; dsimp only; rw [if_pos hd.2]; exact h
theorem Ex_n {i : Instr} {len : Nat} {pc' : Nat} {ls' : Lcs} {st' : List AV} {sh' : List Kd} {σ' : Sto} (hd : decOK e pc (i) len) (h : stpI e i len pc ls st sh σ = nx pc' ls' st' sh' σ') : Ex d e pc ls st sh σ Q = Ex d e pc' ls' st' sh' σ' Q := Ex_nx (stp_ok hd h)
theorem Ex_g {i : Instr} {len : Nat} {b : Bool} {pc' : Nat} {ls' : Lcs} {st' : List AV} {sh' : List Kd} {σ' : Sto} (hd : decOK e pc (i) len) (h : stpI e i len pc ls st sh σ = gd b (nx pc' ls' st' sh' σ')) : Ex d e pc ls st sh σ Q = (b = true ∧ Ex d e pc' ls' st' sh' σ' Q) := Ex_gd (stp_ok hd h)
theorem Ex_r {i : Instr} {len : Nat} {r : Option AV} (hd : decOK e pc (i) len) (h : stpI e i len pc ls st sh σ = some (.inr (.inr r))) : Ex d e pc ls st sh σ Q = Q r sh σ := Ex_rt (stp_ok hd h)
theorem Ex_rz {i : Instr} {len : Nat} {n : Int} (hd : decOK e pc (i) len) (h : stpI e i len pc ls st sh σ = gd (decide (n = 0) || decide (n = 1)) (some (.inr (.inr (some (.inl n)))))) : Ex d e pc ls st sh σ Q = ((n = 0 ∨ n = 1) ∧ Q (some (.inl n)) sh σ) := by
  by_cases hn : n = 0 ∨ n = 1
  · have : (decide (n = 0) || decide (n = 1)) = true := by simpa using hn
    rw [this] at h
    rw [Ex_rt (stp_ok hd h)]; simp [hn]
  · have : (decide (n = 0) || decide (n = 1)) = false := by simpa using hn
    rw [this] at h
    rw [Ex_no (stp_ok hd h)]; simp [hn]
theorem Ex_b {i : Instr} {len : Nat} {b : Bool} {c : Prop} {hc : Decidable c} {p1 p2 : Nat} {st' : List AV} (hb : (b = true) = c) (hd : decOK e pc (i) len) (h : stpI e i len pc ls st sh σ = nx (if b = true then p1 else p2) ls st' sh σ) : Ex d e pc ls st sh σ Q = if c then Ex d e p1 ls st' sh σ Q else Ex d e p2 ls st' sh σ Q := by
  subst hb
  rw [Ex_nx (stp_ok hd h)]
  cases b <;> simp
theorem cnd_eq (a b : Int) : (cnd .eq a b = true) = (a = b) := by simp [cnd]
theorem cnd_ne (a b : Int) : (cnd .ne a b = true) = (¬ a = b) := by simp [cnd]
theorem cnd_lt (a b : Int) : (cnd .lt a b = true) = (a < b) := by simp [cnd]
theorem cnd_ge (a b : Int) : (cnd .ge a b = true) = (b ≤ a) := by simp [cnd]
theorem cnd_gt (a b : Int) : (cnd .gt a b = true) = (b < a) := by simp [cnd]
theorem cnd_le (a b : Int) : (cnd .le a b = true) = (a ≤ b) := by simp [cnd]
theorem Ex_cl1 {i : Instr} {len : Nat} {y : MEnt} {as rest : List AV} {b : Bool} (hd : decOK e pc (i) len) (h : stpI e i len pc ls st sh σ = gd b (some (.inr (.inl (y, as, rest))))) : Ex (d + 1) e pc ls st sh σ Q = (b = true ∧ Ex d y 0 (entL (eL y) as) [] sh σ (fun r sh' σ' => Ex (d + 1) e (pc + 3) ls (r.toList ++ rest) sh' σ' Q)) := by
  cases b with
  | false => rw [Ex_no (stp_ok hd (h.trans rfl))]; simp
  | true => rw [Ex_cl (stp_ok hd (h.trans rfl))]; simp
/-- a virtual call, a static one -/
theorem Ex_cv {i : Instr} {len : Nat} {y : MEnt} {as rest : List AV} {k ci : Nat} {le : Lcs} {pc3 : Nat} (hd : decOK e pc (i) len) (h : stpI e i len pc ls st sh σ = gd (okC sh k (eC y) && decide (catS rest ≤ 8) && true) (some (.inr (.inl (y, as, rest))))) (hl : entL (eL y) as = le) (hp : pc + 3 = pc3) (hci : eC y = ci) : Ex (d + 1) e pc ls st sh σ Q = (okC sh k ci = true ∧ catS rest ≤ 8 ∧ Ex d y 0 le [] sh σ (fun r sh' σ' => Ex (d + 1) e pc3 ls (r.toList ++ rest) sh' σ' Q)) := by
  subst hl hp hci
  rw [Ex_cl1 hd h]
  simp [and_assoc]
theorem Ex_cs {i : Instr} {len : Nat} {y : MEnt} {as rest : List AV} {le : Lcs} {pc3 : Nat} (hd : decOK e pc (i) len) (h : stpI e i len pc ls st sh σ = gd (decide (catS rest ≤ 8) && true) (some (.inr (.inl (y, as, rest))))) (hl : entL (eL y) as = le) (hp : pc + 3 = pc3) : Ex (d + 1) e pc ls st sh σ Q = (catS rest ≤ 8 ∧ Ex d y 0 le [] sh σ (fun r sh' σ' => Ex (d + 1) e pc3 ls (r.toList ++ rest) sh' σ' Q)) := by
  subst hl hp
  rw [Ex_cl1 hd h]
  simp
theorem Ex_ar {i : Instr} {len : Nat} {j n : Int} {pc' : Nat} {ls' : Lcs} {st' : List AV} {sh' : List Kd} {σ' : Sto} (hd : decOK e pc (i) len) (h : stpI e i len pc ls st sh σ = gd (decide (0 ≤ j) && decide (j < n)) (nx pc' ls' st' sh' σ')) : Ex d e pc ls st sh σ Q = ((0 ≤ j ∧ j < n) ∧ Ex d e pc' ls' st' sh' σ' Q) := by
  rw [Ex_g hd h]; simp
theorem Ex_ar3 {i : Instr} {len : Nat} {j n : Int} {b : Bool} {pc' : Nat} {ls' : Lcs} {st' : List AV} {sh' : List Kd} {σ' : Sto} (hd : decOK e pc (i) len) (h : stpI e i len pc ls st sh σ = gd (decide (0 ≤ j) && decide (j < n) && b) (nx pc' ls' st' sh' σ')) : Ex d e pc ls st sh σ Q = ((0 ≤ j ∧ j < n) ∧ b = true ∧ Ex d e pc' ls' st' sh' σ' Q) := by
  rw [Ex_g hd h]; simp [and_assoc]
theorem Ex_iald {len : Nat} {j : Int} {k : Nat} (hk : k < 1000) (hd : decOK e pc (.iaload) len) : Ex d e pc ls (.inl j :: .inr (.inr (some k)) :: st) sh σ Q = ((0 ≤ j ∧ j < aln sh .int k) ∧ Ex d e (pc + len) ls (.inl (σ k j) :: st) sh σ Q) :=
  Ex_ar hd (by rw [stpI]; rw [if_pos hk])
theorem Ex_ialx {len : Nat} {j : Int} {k : Nat} (hk : ¬ k < 1000) (hd : decOK e pc (.iaload) len) : Ex d e pc ls (.inl j :: .inr (.inr (some k)) :: st) sh σ Q = ((0 ≤ j ∧ j < (xln .int k).length) ∧ Ex d e (pc + len) ls (.inl ((xln .int k).getD j.toNat 0) :: st) sh σ Q) :=
  Ex_ar hd (by rw [stpI]; rw [if_neg hk])
theorem Ex_nz {i : Instr} {len : Nat} {n : Int} {pc' : Nat} {ls' : Lcs} {st' : List AV} {sh' : List Kd} {σ' : Sto} (hd : decOK e pc (i) len) (h : stpI e i len pc ls st sh σ = gd (decide (¬ n = 0)) (nx pc' ls' st' sh' σ')) : Ex d e pc ls st sh σ Q = (¬ n = 0 ∧ Ex d e pc' ls' st' sh' σ' Q) := by
  rw [Ex_g hd h]; simp
theorem Ex_pz {i : Instr} {len : Nat} {n : Int} {b : Bool} {pc' : Nat} {ls' : Lcs} {st' : List AV} {sh' : List Kd} {σ' : Sto} (hd : decOK e pc (i) len) (h : stpI e i len pc ls st sh σ = gd (b && (decide (n = 0) || decide (n = 1))) (nx pc' ls' st' sh' σ')) : Ex d e pc ls st sh σ Q = (b = true ∧ (n = 0 ∨ n = 1) ∧ Ex d e pc' ls' st' sh' σ' Q) := by
  rw [Ex_g hd h]; simp [and_assoc]
theorem Ex_pi {i : Instr} {len : Nat} {b : Bool} {pc' : Nat} {ls' : Lcs} {st' : List AV} {sh' : List Kd} {σ' : Sto} (hd : decOK e pc (i) len) (h : stpI e i len pc ls st sh σ = gd (b && true) (nx pc' ls' st' sh' σ')) : Ex d e pc ls st sh σ Q = (b = true ∧ Ex d e pc' ls' st' sh' σ' Q) := by
  rw [Ex_g hd h]; simp
theorem Ex_copy {i : Instr} {len : Nat} {sp dp n u v : Int} {pc' : Nat} {ls' : Lcs} {st' : List AV} {sh' : List Kd} {σ' : Sto} (hd : decOK e pc (i) len) (h : stpI e i len pc ls st sh σ = gd (decide (0 ≤ sp) && decide (0 ≤ dp) && decide (0 < n) && decide (sp + n ≤ u) && decide (dp + n ≤ v) && decide (catS st' ≤ 8)) (nx pc' ls' st' sh' σ')) : Ex d e pc ls st sh σ Q = ((0 ≤ sp ∧ 0 ≤ dp ∧ 0 < n ∧ sp + n ≤ u ∧ dp + n ≤ v ∧ catS st' ≤ 8) ∧ Ex d e pc' ls' st' sh' σ' Q) := by
  rw [Ex_g hd h]; simp [and_assoc]
theorem Ex_slen {i : Instr} {len : Nat} {k : Nat} {pc' : Nat} {ls' : Lcs} {st' : List AV} {sh' : List Kd} {σ' : Sto} {rst : List AV} (hd : decOK e pc (i) len) (h : stpI e i len pc ls st sh σ = gd (decide (1010 ≤ k) && decide (k < 1014) && decide (catS rst ≤ 8)) (nx pc' ls' st' sh' σ')) : Ex d e pc ls st sh σ Q = ((1010 ≤ k ∧ k < 1014 ∧ catS rst ≤ 8) ∧ Ex d e pc' ls' st' sh' σ' Q) := by
  rw [Ex_g hd h]; simp [and_assoc]
theorem Ex_sat {i : Instr} {len : Nat} {k : Nat} {j n : Int} {pc' : Nat} {ls' : Lcs} {st' : List AV} {sh' : List Kd} {σ' : Sto} {rst : List AV} (hd : decOK e pc (i) len) (h : stpI e i len pc ls st sh σ = gd (decide (1010 ≤ k) && decide (k < 1014) && decide (0 ≤ j) && decide (j < n) && decide (catS rst ≤ 8)) (nx pc' ls' st' sh' σ')) : Ex d e pc ls st sh σ Q = ((1010 ≤ k ∧ k < 1014 ∧ 0 ≤ j ∧ j < n ∧ catS rst ≤ 8) ∧ Ex d e pc' ls' st' sh' σ' Q) := by
  rw [Ex_g hd h]; simp [and_assoc]
def swE (lo : Int) (ts : List Nat) (td : Nat) (x : Int) (K : Nat → Prop) : Prop := match ts with
  | [] => K td
  | t :: ts => if x = lo then K t else swE (lo + 1) ts td x K
def lkE (ps : List (Int × Nat)) (td : Nat) (x : Int) (K : Nat → Prop) : Prop := match ps with
  | [] => K td
  | p :: ps => if x = p.1 then K p.2 else lkE ps td x K
theorem swE_of {pc : Nat} {dt : Int} {td : Nat} {x : Int} {K : Nat → Prop} (hd : (pc : Int) + dt = td) : ∀ (os : List Int) (ts : List Nat) (lo : Int), os.map (fun o => (pc : Int) + o) = ts.map (fun t : Nat => ((t : Nat) : Int)) → K (jmp pc (swT lo os dt x)) = swE lo ts td x K ∧ 0 ≤ (pc : Int) + swT lo os dt x := by
  intro os
  induction os with
  | nil =>
    intro ts lo h
    cases ts with
    | nil => exact ⟨by simp only [swE, swT, jmp, hd, Int.toNat_natCast], by simp only [swT, hd]; omega⟩
    | cons t ts => simp at h
  | cons o os ih =>
    intro ts lo h
    cases ts with
    | nil => simp at h
    | cons t ts =>
      simp only [List.map_cons, List.cons.injEq] at h
      simp only [swE, swT]
      split
      · exact ⟨by simp only [jmp, h.1, Int.toNat_natCast], by rw [h.1]; omega⟩
      · exact ih ts (lo + 1) h.2
theorem lkE_of {pc : Nat} {dt : Int} {td : Nat} {x : Int} {K : Nat → Prop} (hd : (pc : Int) + dt = td) : ∀ (os : List (Int × Int)) (ts : List (Int × Nat)), os.map (fun o => (o.1, (pc : Int) + o.2)) = ts.map (fun t : Int × Nat => (t.1, ((t.2 : Nat) : Int))) → K (jmp pc (lkT os dt x)) = lkE ts td x K ∧ 0 ≤ (pc : Int) + lkT os dt x := by
  intro os
  induction os with
  | nil =>
    intro ts h
    cases ts with
    | nil => exact ⟨by simp only [lkE, lkT, jmp, hd, Int.toNat_natCast], by simp only [lkT, hd]; omega⟩
    | cons t ts => simp at h
  | cons o os ih =>
    intro ts h
    cases ts with
    | nil => simp at h
    | cons t ts =>
      simp only [List.map_cons, List.cons.injEq, Prod.mk.injEq] at h
      simp only [lkE, lkT, h.1.1]
      split
      · exact ⟨by simp only [jmp, h.1.2, Int.toNat_natCast], by rw [h.1.2]; omega⟩
      · exact ih ts h.2
theorem Ex_ts {len : Nat} {x dt lo hi : Int} {os : Array Int} {td : Nat} (ts : List Nat) (hd : decOK e pc (.tableswitch dt lo hi os) len) (h1 : hi = lo + os.size - 1) (h2 : (pc : Int) + dt = td) (h3 : os.toList.map (fun o => (pc : Int) + o) = ts.map (fun t : Nat => ((t : Nat) : Int))) : Ex d e pc ls (.inl x :: st) sh σ Q = swE lo ts td x (fun t => Ex d e t ls st sh σ Q) := by
  obtain ⟨a1, a2⟩ := swE_of (x := x) (K := fun t => Ex d e t ls st sh σ Q) h2 os.toList ts lo h3
  rw [← a1]
  rw [Ex_g hd (by rw [stpI])]
  simp [h1, a2]
theorem Ex_lk {len : Nat} {x dt : Int} {ps : Array (Int × Int)} {td : Nat} (ts : List (Int × Nat)) (hd : decOK e pc (.lookupswitch dt ps) len) (h1 : ((ps.toList.zip (ps.toList.drop 1)).all (fun (a, next) => a.1 < next.1)) = true) (h2 : (pc : Int) + dt = td) (h3 : ps.toList.map (fun o => (o.1, (pc : Int) + o.2)) = ts.map (fun t : Int × Nat => (t.1, ((t.2 : Nat) : Int)))) : Ex d e pc ls (.inl x :: st) sh σ Q = lkE ts td x (fun t => Ex d e t ls st sh σ Q) := by
  obtain ⟨a1, a2⟩ := lkE_of (x := x) (K := fun t => Ex d e t ls st sh σ Q) h2 ps.toList ts h3
  rw [← a1]
  rw [Ex_g hd (by rw [stpI])]
  rw [h1]
  simp [a2]
end
theorem clr_n : clr none = none := rfl
theorem clr_i (n : Int) : clr (some (.inl n)) = some (.inl n) := rfl
theorem clr_j (n : Int) : clr (some (.inr (.inl n))) = none := rfl
theorem clr_r (n : Option Nat) : clr (some (.inr (.inr n))) = some (.inr (.inr n)) := rfl
theorem catS_n : catS [] = 0 := rfl
theorem catS_i (n : Int) (l : List AV) : catS (.inl n :: l) = 1 + catS l := rfl
theorem catS_j (n : Int) (l : List AV) : catS (.inr (.inl n) :: l) = 2 + catS l := rfl
theorem catS_r (n : Option Nat) (l : List AV) : catS (.inr (.inr n) :: l) = 1 + catS l := rfl
