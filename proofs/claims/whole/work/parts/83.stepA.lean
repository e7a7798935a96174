-- each instruction of the abstract machine is one of the claim's machine
def xty (k : Nat) : FieldType := match k with
  | 1000 => .char
  | _ => .int
/-- the words of a nest -/
def isN (w : Cond) : Bool := match w with
  | .fieldLinkNest _ _ _ _ _ _ => true
  | .methodLinkNest _ _ _ _ => true
  | _ => false
def Xt (ad : Nat → Nat) (A : Nat → Prop) (U : State) (H : Heap) : Prop :=
  (∀ k, 1000 ≤ k → k < 1004 → va_Z RX7 (okGn k).1 (okGn k).2 (.ref (ad k)) A U H ∧ va_T (xty k) (ad k) 5 (fun j => .int (Int32.ofInt ((xln (xty k) k).getD j 0))) A U H) ∧
  (∀ (c : Nat) (q : Nat × Nat × Nat), q ∈ axSt c → vk_R (axR c) q.1 (okSx q.2.1) (ad q.2.1) U) ∧
  (∃ adV : Nat → Nat, vk_S 4 [1, 5, 3, 2] [[121], [97, 98, 120, 121, 110], [121, 100, 104], [109, 99]] (fun i => ad (1010 + i)) adV A U H) ∧
  (∀ w ∈ lw_tbl, isN w = true → va_Nw w U) ∧ va_AO RX8 U ∧ va_Z "java/lang/String" "COMPACT_STRINGS" "Z" (.int 1) A U H ∧ va_Zq "jdk/internal/util/Preconditions" "SIOOBE_FORMATTER" "Ljava/util/function/BiFunction;" A U H
def Bd (p : Program) (R : Room) (s : State) (m : MethodId) (args : Array Value) (meth : Method) (c : Code) (me : MEnt) (D : va_G) (cA : FieldType → ClassId) (A : Nat → Prop) (ad : Nat → Nat) : Prop :=
  p.tables.exec = Jvm.exec ∧ c.code = eB me ∧ meth.sig.returnType = eR me ∧ c.maxLocals = eL me ∧ s.vm.findClass (axR (eC me)) = some m.cls ∧ (∀ w ∈ gwT, w.before args s = true) ∧ meth.locks = false ∧ meth.name = (eY me).name ∧ va_K D vwCl (axtys cA) s ∧ (∀ q, s.heap.size ≤ q → A q) ∧ Xt ad A s s.heap ∧ Val me ∧ 4 ≤ R.frames ∧ 300 ≤ R.locals
def Fr (ad : Nat → Nat) (me : MEnt) (lsA : Array Slot) (ls : Lcs) (st : List AV) (n : Nat) : Prop := lv_has lsA (eL me) (loc ad 0 ls) ∧ ls.length = eL me ∧ lOK n ls ∧ ∀ v ∈ st, vOK n v
def Wo (s : State) (D : va_G) (cA : FieldType → ClassId) (ad : Nat → Nat) (A : Nat → Prop) (H : Heap) (locs : List Loc) (sh : List Kd) (σ : Sto) : Prop := va_P D vwCl (wl ad cA sh σ) H ∧ va_D A (wl ad cA sh σ) ∧ va_S A s.heap H locs ∧ sOK sh σ ∧ sh.length ≤ 900
def Sim (p : Program) (l : Launch) (e : Env) (R : Room) (s : State) (m : MethodId) (args : Array Value) (below : List Frame) (meth : Method) (c : Code) (me : MEnt) (D : va_G) (cA : FieldType → ClassId) (A : Nat → Prop) (ad : Nat → Nat) (pc : Nat) (ls : Lcs) (st : List AV) (sh : List Kd) (σ : Sto) (pc' : Nat) (ls' : Lcs) (st' : List AV) (sh' : List Kd) (σ' : Sto) (dc ds : Nat) : Prop :=
  ∀ (lsA : Array Slot) (H : Heap) (locs : List Loc) (cells slots : Nat) (Q : State → Prop), Fr ad me lsA ls st sh.length → Wo s D cA ad A H locs sh σ → cells + dc ≤ R.cells → slots + ds ≤ R.slots →
    (∀ (ad' : Nat → Nat) (lsA' : Array Slot) (H' : Heap) (locs' : List Loc), Ag sh.length ad ad' → Fr ad' me lsA' ls' st' sh'.length → Wo s D cA ad' A H' locs' sh' σ' → sh.length ≤ sh'.length → W p l e R s m args below meth c H' locs' (cells + dc) (slots + ds) Q (F0 m pc' lsA' (st'.map (cV ad')))) →
    W p l e R s m args below meth c H locs cells slots Q (F0 m pc lsA (st.map (cV ad)))
theorem nx_in {pc pc' : Nat} {ls ls' : Lcs} {st st' : List AV} {sh sh' : List Kd} {σ σ' : Sto} {dc ds : Nat} (h : nx pc ls st sh σ = some (.inl (pc', ls', st', sh', σ', dc, ds))) : pc = pc' ∧ ls = ls' ∧ st = st' ∧ sh = sh' ∧ σ = σ' ∧ 0 = dc ∧ 0 = ds := by
  simpa only [nx, Option.some.injEq, Sum.inl.injEq, Prod.mk.injEq] using h
theorem gd_in {b : Bool} {r : Option Rs} {x : Rs} (h : gd b r = some x) : b = true ∧ r = some x := by
  cases b with
  | false => cases h
  | true => exact ⟨rfl, h⟩
section
variable {p : Program} {l : Launch} {e : Env} {R : Room} {s : State} {m : MethodId} {args : Array Value} {below : List Frame} {meth : Method} {c : Code} {me : MEnt} {D : va_G} {cA : FieldType → ClassId} {A : Nat → Prop} {ad : Nat → Nat} {pc : Nat} {ls : Lcs} {st : List AV} {sh : List Kd} {σ : Sto} {pc' : Nat} {ls' : Lcs} {st' : List AV} {sh' : List Kd} {σ' : Sto} {dc ds : Nat}
/-- what changes the frame alone -/
theorem Sim_fr (h : ∀ (lsA : Array Slot) (H : Heap) (locs : List Loc) (cells slots : Nat) (Q : State → Prop), Fr ad me lsA ls st sh.length → (∀ lsA' : Array Slot, Fr ad me lsA' ls' st' sh.length → W p l e R s m args below meth c H locs cells slots Q (F0 m pc' lsA' (st'.map (cV ad)))) → W p l e R s m args below meth c H locs cells slots Q (F0 m pc lsA (st.map (cV ad)))) : Sim p l e R s m args below meth c me D cA A ad pc ls st sh σ pc' ls' st' sh σ 0 0 := by
  intro lsA H locs cells slots Q F Wd _ _ kk
  exact h lsA H locs cells slots Q F fun lsA' F' => kk ad lsA' H locs Ag.rf F' Wd (Nat.le_refl _)
theorem Fr.tl {lsA : Array Slot} {v : AV} {n : Nat} (F : Fr ad me lsA ls (v :: st) n) : Fr ad me lsA ls st n := ⟨F.1, F.2.1, F.2.2.1, fun w hw => F.2.2.2 w (List.mem_cons_of_mem _ hw)⟩
theorem Fr.hd {lsA : Array Slot} {v : AV} {n : Nat} (F : Fr ad me lsA ls (v :: st) n) : vOK n v := F.2.2.2 v List.mem_cons_self
theorem Fr.push {lsA : Array Slot} {v : AV} {n : Nat} (F : Fr ad me lsA ls st n) (h : vOK n v) : Fr ad me lsA ls (v :: st) n := ⟨F.1, F.2.1, F.2.2.1, fun w hw => by
  rcases List.mem_cons.mp hw with rfl | hw
  · exact h
  · exact F.2.2.2 w hw⟩
theorem Fr.at {lsA : Array Slot} {v : AV} {n i : Nat} (F : Fr ad me lsA ls st n) (h : ls[i]? = some (some v)) : lsA[i]? = some (.val (cV ad v)) ∧ vOK n v := by
  have h1 := F.1.2.2 _ (loc_mem (ad := ad) ls 0 i v h)
  rw [Nat.zero_add] at h1
  exact ⟨h1, F.2.2.1 v (List.mem_of_getElem? h)⟩
theorem S_ld (B : Bd p R s m args meth c me D cA A ad) (t i q : Nat) (hr0 : t = 0 → ∀ (x : Int32) (H : Heap) (locs : List Loc) (cells slots : Nat) (Q : State → Prop) (lsA : Array Slot) (rest : List Value), lsA[i]? = some (.val (.int x)) → W p l e R s m args below meth c H locs cells slots Q (F0 m q lsA (.int x :: rest)) → W p l e R s m args below meth c H locs cells slots Q (F0 m pc lsA rest))
    (hr1 : t = 1 → ∀ (x : Int64) (H : Heap) (locs : List Loc) (cells slots : Nat) (Q : State → Prop) (lsA : Array Slot) (rest : List Value), lsA[i]? = some (.val (.long x)) → W p l e R s m args below meth c H locs cells slots Q (F0 m q lsA (.long x :: rest)) → W p l e R s m args below meth c H locs cells slots Q (F0 m pc lsA rest))
    (hr2 : t = 2 → ∀ (x : Nat) (H : Heap) (locs : List Loc) (cells slots : Nat) (Q : State → Prop) (lsA : Array Slot) (rest : List Value), lsA[i]? = some (.val (.ref x)) → W p l e R s m args below meth c H locs cells slots Q (F0 m q lsA (.ref x :: rest)) → W p l e R s m args below meth c H locs cells slots Q (F0 m pc lsA rest))
    (h : ldI t ls i q st sh σ = some (.inl (pc', ls', st', sh', σ', dc, ds))) : Sim p l e R s m args below meth c me D cA A ad pc ls st sh σ pc' ls' st' sh' σ' dc ds := by
  unfold ldI at h
  split at h
  · rename_i v hv
    obtain ⟨rfl, rfl, rfl, rfl, rfl, rfl, rfl⟩ := nx_in h
    refine Sim_fr fun lsA H locs cells slots Q F kk => ?_
    obtain ⟨h1, h2⟩ := F.at hv
    exact hr0 rfl _ _ _ _ _ _ _ _ h1 (kk lsA (F.push h2))
  · rename_i v hv
    obtain ⟨rfl, rfl, rfl, rfl, rfl, rfl, rfl⟩ := nx_in h
    refine Sim_fr fun lsA H locs cells slots Q F kk => ?_
    obtain ⟨h1, h2⟩ := F.at hv
    exact hr1 rfl _ _ _ _ _ _ _ _ h1 (kk lsA (F.push h2))
  · rename_i v hv
    obtain ⟨rfl, rfl, rfl, rfl, rfl, rfl, rfl⟩ := nx_in h
    refine Sim_fr fun lsA H locs cells slots Q F kk => ?_
    obtain ⟨h1, h2⟩ := F.at hv
    exact hr2 rfl _ _ _ _ _ _ _ _ h1 (kk lsA (F.push h2))
  · cases h
theorem Fr.sto1 {lsA lsA' : Array Slot} {v : AV} {n i : Nat} (F : Fr ad me lsA ls (v :: st) n) (hi : i < ls.length) (h : lv_has lsA' (eL me) ((i, cV ad v) :: (loc ad 0 ls).filter (fun q => !(q.1 == i) && !(q.1 + 1 == i && q.2.category == 2)))) : Fr ad me lsA' (sto1 ls i v) st n :=
  ⟨lv_mono h (sto1_loc hi), (sto1_len ls i v).trans F.2.1, sto1_ok F.2.2.1 hi F.hd, F.tl.2.2.2⟩
theorem Fr.sto2 {lsA lsA' : Array Slot} {v : AV} {n i : Nat} (F : Fr ad me lsA ls (v :: st) n) (hi : i + 1 < ls.length) (h : lv_has lsA' (eL me) ((i, cV ad v) :: (loc ad 0 ls).filter (fun q => !(q.1 == i) && (!(q.1 == i + 1) && !(q.1 + 1 == i && q.2.category == 2))))) : Fr ad me lsA' (sto2 ls i v) st n :=
  ⟨lv_mono h (sto2_loc hi), (sto2_len ls i v).trans F.2.1, sto2_ok F.2.2.1 hi F.hd, F.tl.2.2.2⟩
theorem S_st (B : Bd p R s m args meth c me D cA A ad) (t i q : Nat)
    (hr0 : t = 0 → i < eL me → ∀ (x : Int32) (lv : List (Nat × Value)) (H : Heap) (locs : List Loc) (cells slots : Nat) (Q : State → Prop) (lsA : Array Slot) (rest : List Value), lv_has lsA (eL me) lv → (∀ lsA' : Array Slot, lv_has lsA' (eL me) ((i, Value.int x) :: lv.filter (fun q => !(q.1 == i) && !(q.1 + 1 == i && q.2.category == 2))) → W p l e R s m args below meth c H locs cells slots Q (F0 m q lsA' rest)) → W p l e R s m args below meth c H locs cells slots Q (F0 m pc lsA (.int x :: rest)))
    (hr1 : t = 1 → i + 1 < eL me → ∀ (x : Int64) (lv : List (Nat × Value)) (H : Heap) (locs : List Loc) (cells slots : Nat) (Q : State → Prop) (lsA : Array Slot) (rest : List Value), lv_has lsA (eL me) lv → (∀ lsA' : Array Slot, lv_has lsA' (eL me) ((i, Value.long x) :: lv.filter (fun q => !(q.1 == i) && (!(q.1 == i + 1) && !(q.1 + 1 == i && q.2.category == 2)))) → W p l e R s m args below meth c H locs cells slots Q (F0 m q lsA' rest)) → W p l e R s m args below meth c H locs cells slots Q (F0 m pc lsA (.long x :: rest)))
    (hr2 : t = 2 → i < eL me → ∀ (x : Nat) (lv : List (Nat × Value)) (H : Heap) (locs : List Loc) (cells slots : Nat) (Q : State → Prop) (lsA : Array Slot) (rest : List Value), lv_has lsA (eL me) lv → (∀ lsA' : Array Slot, lv_has lsA' (eL me) ((i, Value.ref x) :: lv.filter (fun q => !(q.1 == i) && !(q.1 + 1 == i && q.2.category == 2))) → W p l e R s m args below meth c H locs cells slots Q (F0 m q lsA' rest)) → W p l e R s m args below meth c H locs cells slots Q (F0 m pc lsA (.ref x :: rest)))
    (h : stI t ls i q st sh σ = some (.inl (pc', ls', st', sh', σ', dc, ds))) : Sim p l e R s m args below meth c me D cA A ad pc ls st sh σ pc' ls' st' sh' σ' dc ds := by
  unfold stI at h
  split at h
  · obtain ⟨h1, h2⟩ := gd_in h
    have h1 := of_decide_eq_true h1
    obtain ⟨rfl, rfl, rfl, rfl, rfl, rfl, rfl⟩ := nx_in h2
    refine Sim_fr fun lsA H locs cells slots Q F kk => ?_
    exact hr0 rfl (by rw [← F.2.1]; exact h1) _ _ _ _ _ _ _ _ _ F.1 fun lsA' hl => kk lsA' (F.sto1 h1 hl)
  · obtain ⟨h1, h2⟩ := gd_in h
    have h1 := of_decide_eq_true h1
    obtain ⟨rfl, rfl, rfl, rfl, rfl, rfl, rfl⟩ := nx_in h2
    refine Sim_fr fun lsA H locs cells slots Q F kk => ?_
    exact hr1 rfl (by rw [← F.2.1]; exact h1) _ _ _ _ _ _ _ _ _ F.1 fun lsA' hl => kk lsA' (F.sto2 h1 hl)
  · obtain ⟨h1, h2⟩ := gd_in h
    have h1 := of_decide_eq_true h1
    obtain ⟨rfl, rfl, rfl, rfl, rfl, rfl, rfl⟩ := nx_in h2
    refine Sim_fr fun lsA H locs cells slots Q F kk => ?_
    exact hr2 rfl (by rw [← F.2.1]; exact h1) _ _ _ _ _ _ _ _ _ F.1 fun lsA' hl => kk lsA' (F.sto1 h1 hl)
  · cases h
/-- a number is pushed -/
theorem S_pushI (q : Nat) (n : Int) (hn : r32 n) (hr : ∀ (H : Heap) (locs : List Loc) (cells slots : Nat) (Q : State → Prop) (lsA : Array Slot) (rest : List Value), W p l e R s m args below meth c H locs cells slots Q (F0 m q lsA (.int (Int32.ofInt n) :: rest)) → W p l e R s m args below meth c H locs cells slots Q (F0 m pc lsA rest)) (h : nx q ls (.inl n :: st) sh σ = some (.inl (pc', ls', st', sh', σ', dc, ds))) : Sim p l e R s m args below meth c me D cA A ad pc ls st sh σ pc' ls' st' sh' σ' dc ds := by
  obtain ⟨rfl, rfl, rfl, rfl, rfl, rfl, rfl⟩ := nx_in h
  exact Sim_fr fun lsA H locs cells slots Q F kk => hr _ _ _ _ _ _ _ (kk lsA (F.push hn))
theorem S_pushJ (q : Nat) (n : Int) (hn : r64 n) (hr : ∀ (H : Heap) (locs : List Loc) (cells slots : Nat) (Q : State → Prop) (lsA : Array Slot) (rest : List Value), W p l e R s m args below meth c H locs cells slots Q (F0 m q lsA (.long (Int64.ofInt n) :: rest)) → W p l e R s m args below meth c H locs cells slots Q (F0 m pc lsA rest)) (h : nx q ls (.inr (.inl n) :: st) sh σ = some (.inl (pc', ls', st', sh', σ', dc, ds))) : Sim p l e R s m args below meth c me D cA A ad pc ls st sh σ pc' ls' st' sh' σ' dc ds := by
  obtain ⟨rfl, rfl, rfl, rfl, rfl, rfl, rfl⟩ := nx_in h
  exact Sim_fr fun lsA H locs cells slots Q F kk => hr _ _ _ _ _ _ _ (kk lsA (F.push hn))
theorem S_bi (q : Nat) (f : Int → Int → Int) (g : Int32 → Int32 → Int32) (hf : ∀ a b, r32 a → r32 b → Int32.ofInt (f a b) = g (Int32.ofInt a) (Int32.ofInt b) ∧ r32 (f a b)) (hr : ∀ (x y : Int32) (H : Heap) (locs : List Loc) (cells slots : Nat) (Q : State → Prop) (lsA : Array Slot) (rest : List Value), (∀ (z : Int) (r : List AV), st = .inl z :: r → y = Int32.ofInt z) → W p l e R s m args below meth c H locs cells slots Q (F0 m q lsA (.int (g x y) :: rest)) → W p l e R s m args below meth c H locs cells slots Q (F0 m pc lsA (.int y :: .int x :: rest))) (h : bi f q ls st sh σ = some (.inl (pc', ls', st', sh', σ', dc, ds))) : Sim p l e R s m args below meth c me D cA A ad pc ls st sh σ pc' ls' st' sh' σ' dc ds := by
  unfold bi at h
  split at h
  · rename_i b a r
    obtain ⟨rfl, rfl, rfl, rfl, rfl, rfl, rfl⟩ := nx_in h
    refine Sim_fr fun lsA H locs cells slots Q F kk => ?_
    obtain ⟨h1, h2⟩ := hf a b F.tl.hd F.hd
    refine hr _ _ _ _ _ _ _ _ _ (fun z r' hz => by cases hz; rfl) ?_
    have := kk lsA (F.tl.tl.push (v := .inl (f a b)) h2)
    simp only [List.map_cons, cV, h1] at this
    exact this
  · cases h
theorem S_bj (q : Nat) (f : Int → Int → Int) (g : Int64 → Int64 → Int64) (hf : ∀ a b, r64 a → r64 b → Int64.ofInt (f a b) = g (Int64.ofInt a) (Int64.ofInt b) ∧ r64 (f a b)) (hr : ∀ (x y : Int64) (H : Heap) (locs : List Loc) (cells slots : Nat) (Q : State → Prop) (lsA : Array Slot) (rest : List Value), (∀ (z : Int) (r : List AV), st = .inr (.inl z) :: r → y = Int64.ofInt z) → W p l e R s m args below meth c H locs cells slots Q (F0 m q lsA (.long (g x y) :: rest)) → W p l e R s m args below meth c H locs cells slots Q (F0 m pc lsA (.long y :: .long x :: rest))) (h : bj f q ls st sh σ = some (.inl (pc', ls', st', sh', σ', dc, ds))) : Sim p l e R s m args below meth c me D cA A ad pc ls st sh σ pc' ls' st' sh' σ' dc ds := by
  unfold bj at h
  split at h
  · rename_i b a r
    obtain ⟨rfl, rfl, rfl, rfl, rfl, rfl, rfl⟩ := nx_in h
    refine Sim_fr fun lsA H locs cells slots Q F kk => ?_
    obtain ⟨h1, h2⟩ := hf a b F.tl.hd F.hd
    refine hr _ _ _ _ _ _ _ _ _ (fun z r' hz => by cases hz; rfl) ?_
    have := kk lsA (F.tl.tl.push (v := .inr (.inl (f a b))) h2)
    simp only [List.map_cons, cV, h1] at this
    exact this
  · cases h
end
