section
variable {d : Nat} {sh : List Kd} {σ : Sto} {Q : Option AV → List Kd → Sto → Prop} {t : Nat} {M : Sto} {Ls : List (List Cl)}
def unZ (u v : Int) : Int := bc (zand (zor (zxor u v) (zshr (zxor u v) 1)) 1365)
theorem r_unlike {u v : Int} : Ex (d + 1) mX12_unlike 0 [(some (.inr (.inr (some (0))))), (some (.inl (u))), (some (.inl (v))), none] [] sh σ Q = Q (some (.inl (unZ u v))) sh σ := by
  unfold unZ
  simp only [sX12_unlike_0, sX12_unlike_1, sX12_unlike_2, sX12_unlike_3, sX12_unlike_4, sX12_unlike_5, sX12_unlike_6, sX12_unlike_7, sX12_unlike_8, sX12_unlike_9, sX12_unlike_12, sX12_unlike_13, sX12_unlike_16, up_s, up_k, up_i, clr_n, clr_i, clr_j, clr_r, catS_n, catS_i, catS_j, catS_r, Option.toList_some, Option.toList_none, List.cons_append, List.nil_append, List.singleton_append, true_and, and_true, ne_eq, not_false_eq_true, not_true_eq_false, reduceCtorEq, if_true, if_false, true_or, or_true, false_or, or_false, Nat.reduceLT, Nat.reduceEqDiff, Nat.reduceAdd, Nat.reduceLeDiff, Int.reduceEq, Int.reduceNe, Int.reduceLT, Int.reduceLE, Int.reduceAdd, Int.reduceNeg, Int.reduceSub, Int.reduceMul, c_bitCount]
def uqN (x : Nat) : Nat → Nat
  | 0 => 0
  | n + 1 => uqN x n + (if x / 4 ^ n % 4 = 0 then 0 else 1)
theorem un10 : ∀ x : Fin 1024, pcn 15 ((x.val ||| x.val / 2 ^ 1) &&& 1365) = uqN x.val 5 := by decide +kernel
theorem x4 : ∀ a b : Fin 4, (a.val ^^^ b.val = 0) ↔ a.val = b.val := by decide +kernel
theorem xq {u v : Nat} (n : Nat) : ((u ^^^ v) / 4 ^ n % 4 = 0) ↔ u / 4 ^ n % 4 = v / 4 ^ n % 4 := by
  have e : (u ^^^ v) / 4 ^ n % 4 = (u / 4 ^ n % 4) ^^^ (v / 4 ^ n % 4) := by
    rw [show (4 : Nat) ^ n = 2 ^ (2 * n) by rw [Nat.pow_mul], Nat.xor_div_two_pow]
    exact Nat.xor_mod_two_pow (n := 2)
  rw [e]
  exact x4 ⟨u / 4 ^ n % 4, Nat.mod_lt _ (by decide)⟩ ⟨v / 4 ^ n % 4, Nat.mod_lt _ (by decide)⟩
theorem qt_n (v : Nat) : ∀ n : Nat, qt (v : Int) n = ((v / 4 ^ n : Nat) : Int) := by
  intro n
  induction n with
  | zero => rw [Nat.pow_zero, Nat.div_one]; rfl
  | succ n ih => rw [qt_s, ih, Nat.pow_succ, ← Nat.div_div_eq_div_mul]; omega
/-- in how many digits two livings differ -/
def hq (u v : Int) : Nat → Int
  | 0 => 0
  | n + 1 => hq u v n + (if qt u n % 4 = qt v n % 4 then 0 else 1)
theorem un_hq {u v : Nat} (hu : u < 1024) (hv : v < 1024) : unZ u v = hq u v 5 := by
  have hx : u ^^^ v < 1024 := Nat.xor_lt_two_pow (n := 10) hu hv
  unfold unZ
  rw [zxor_n (by omega) (by omega), show (1 : Int) = ((1 : Nat) : Int) from rfl, zshr_n (by omega) (by omega)]
  have e1 := un10 ⟨u ^^^ v, hx⟩
  simp only at e1
  have e2 : ∀ n : Nat, (uqN (u ^^^ v) n : Int) = hq u v n := by
    intro n
    induction n with
    | zero => rfl
    | succ n ih =>
      rw [uqN, hq, ← ih, qt_n, qt_n]
      have := xq (u := u) (v := v) n
      by_cases c : (u ^^^ v) / 4 ^ n % 4 = 0
      · rw [if_pos c, if_pos (by have := this.mp c; omega)]; omega
      · rw [if_neg c, if_neg (fun z => c (this.mpr (by omega)))]; omega
  have l1 : (u ^^^ v) ||| (u ^^^ v) / 2 ^ 1 < 1024 := Nat.or_lt_two_pow (n := 10) hx (by have := Nat.div_le_self (u ^^^ v) (2 ^ 1); omega)
  rw [zor_n (by omega) (by have := Nat.div_le_self (u ^^^ v) (2 ^ 1); omega), show (1365 : Int) = ((1365 : Nat) : Int) from rfl, zand_n (by omega) (by omega)]
  have l2 : ((u ^^^ v) ||| (u ^^^ v) / 2 ^ 1) &&& 1365 < 32768 := by
    have := Nat.and_lt_two_pow (n := 11) ((u ^^^ v) ||| (u ^^^ v) / 2 ^ 1) (y := 1365) (by decide)
    omega
  rw [bc_15 l2, e1, e2]
theorem hq_z {u v : Int} {m : Nat} : ∀ k : Nat, (∀ i, m ≤ i → qt u i = qt v i) → hq u v (m + k) = hq u v m := by
  intro k
  induction k with
  | zero => intro _; rfl
  | succ k ih => intro e; rw [← Nat.add_assoc, hq, ih e, if_pos (by rw [e _ (by omega)])]; omega
theorem hq_r {u v P : Int} (h0 : 0 < P) (h5 : P ≤ 5) : hq u v P.toNat = hmg (dg P u) (dg P v) P.toNat := by
  rcases (show P = 1 ∨ P = 2 ∨ P = 3 ∨ P = 4 ∨ P = 5 by omega) with rfl | rfl | rfl | rfl | rfl
  · show 0 + (if qt u 0 % 4 = qt v 0 % 4 then (0 : Int) else 1) = 0 + (if qt u 0 % 4 = qt v 0 % 4 then 0 else 1)
    omega
  · show 0 + (if qt u 0 % 4 = qt v 0 % 4 then (0 : Int) else 1) + (if qt u 1 % 4 = qt v 1 % 4 then 0 else 1) = 0 + (if qt u 1 % 4 = qt v 1 % 4 then 0 else 1) + (if qt u 0 % 4 = qt v 0 % 4 then 0 else 1)
    omega
  · show 0 + (if qt u 0 % 4 = qt v 0 % 4 then (0 : Int) else 1) + (if qt u 1 % 4 = qt v 1 % 4 then 0 else 1) + (if qt u 2 % 4 = qt v 2 % 4 then 0 else 1) = 0 + (if qt u 2 % 4 = qt v 2 % 4 then 0 else 1) + (if qt u 1 % 4 = qt v 1 % 4 then 0 else 1) + (if qt u 0 % 4 = qt v 0 % 4 then 0 else 1)
    omega
  · show 0 + (if qt u 0 % 4 = qt v 0 % 4 then (0 : Int) else 1) + (if qt u 1 % 4 = qt v 1 % 4 then 0 else 1) + (if qt u 2 % 4 = qt v 2 % 4 then 0 else 1) + (if qt u 3 % 4 = qt v 3 % 4 then 0 else 1) = 0 + (if qt u 3 % 4 = qt v 3 % 4 then 0 else 1) + (if qt u 2 % 4 = qt v 2 % 4 then 0 else 1) + (if qt u 1 % 4 = qt v 1 % 4 then 0 else 1) + (if qt u 0 % 4 = qt v 0 % 4 then 0 else 1)
    omega
  · show 0 + (if qt u 0 % 4 = qt v 0 % 4 then (0 : Int) else 1) + (if qt u 1 % 4 = qt v 1 % 4 then 0 else 1) + (if qt u 2 % 4 = qt v 2 % 4 then 0 else 1) + (if qt u 3 % 4 = qt v 3 % 4 then 0 else 1) + (if qt u 4 % 4 = qt v 4 % 4 then 0 else 1) = 0 + (if qt u 4 % 4 = qt v 4 % 4 then 0 else 1) + (if qt u 3 % 4 = qt v 3 % 4 then 0 else 1) + (if qt u 2 % 4 = qt v 2 % 4 then 0 else 1) + (if qt u 1 % 4 = qt v 1 % 4 then 0 else 1) + (if qt u 0 % 4 = qt v 0 % 4 then 0 else 1)
    omega
/-- how many livings -/
def lvN (P : Int) : Int := ((4 ^ P.toNat : Nat) : Int)
theorem lvN_b {P : Int} (h0 : 0 < P) (h5 : P ≤ 5) : 1 ≤ lvN P ∧ lvN P ≤ 1024 := by
  unfold lvN
  have b1 : 0 < 4 ^ P.toNat := Nat.pow_pos (by decide)
  have b2 : 4 ^ P.toNat ≤ 4 ^ 5 := Nat.pow_le_pow_right (by omega) (by omega)
  omega
theorem un_eq {u v P : Int} (h0 : 0 < P) (h5 : P ≤ 5) (u0 : 0 ≤ u) (u1 : u < lvN P) (v0 : 0 ≤ v) (v1 : v < lvN P) : unZ u v = hmg (dg P u) (dg P v) P.toNat := by
  have b := lvN_b h0 h5
  have lm := (lm6 (P := P) (by omega) (by omega)).2.2
  have qu := (lm u u0).mp u1
  have qv := (lm v v0).mp v1
  have z : ∀ i, P.toNat ≤ i → qt u i = qt v i := by
    intro i hi
    have : ∀ k, qt u (P.toNat + k) = 0 ∧ qt v (P.toNat + k) = 0 := by
      intro k
      induction k with
      | zero => exact ⟨qu, qv⟩
      | succ k ih => rw [← Nat.add_assoc, qt_s, qt_s, ih.1, ih.2]; exact ⟨rfl, rfl⟩
    have := this (i - P.toNat)
    rw [show P.toNat + (i - P.toNat) = i by omega] at this
    rw [this.1, this.2]
  have e := un_hq (u := u.toNat) (v := v.toNat) (by omega) (by omega)
  rw [show ((u.toNat : Nat) : Int) = u by omega, show ((v.toNat : Nat) : Int) = v by omega] at e
  rw [e, ← hq_r h0 h5]
  have := hq_z (u := u) (v := v) (m := P.toNat) (5 - P.toNat) z
  rw [show P.toNat + (5 - P.toNat) = 5 by omega] at this
  exact this
/-- the living of given houses -/
def hvN (U : Int → Int) : Nat → Int
  | 0 => 0
  | n + 1 => 4 * hvN U n + U n
theorem hv_q {U : Int → Int} {H : Int} (hH : H ≤ 4) : ∀ n : Nat, (∀ p : Int, 0 ≤ p → p < n → 0 ≤ U p ∧ U p < H) → 0 ≤ hvN U n ∧ qt (hvN U n) n = 0 ∧ ∀ p : Int, 0 ≤ p → p < n → qt (hvN U n) ((n : Int) - 1 - p).toNat % 4 = U p := by
  intro n
  induction n with
  | zero => intro _; exact ⟨Int.le_refl _, rfl, fun p p0 p1 => by omega⟩
  | succ n ih =>
    intro hU
    obtain ⟨i0, i1, i2⟩ := ih (fun p p0 p1 => hU p p0 (by omega))
    have un := hU n (by omega) (by omega)
    rw [hvN]
    have e : (4 * hvN U n + U n) / 4 = hvN U n := by omega
    refine ⟨by omega, by rw [qt_c, e]; exact i1, fun p p0 p1 => ?_⟩
    by_cases c : p = n
    · rw [c, show (((n + 1 : Nat) : Int) - 1 - (n : Int)).toNat = 0 by omega]
      show (4 * hvN U n + U n) % 4 = U n
      omega
    · rw [show (((n + 1 : Nat) : Int) - 1 - p).toNat = ((n : Int) - 1 - p).toNat + 1 by omega, qt_c, e]
      exact i2 p p0 (by omega)
theorem hv_ex {P H : Int} (hP : 0 < P ∧ P ≤ 5) (hH : H ≤ 4) {U : Int → Int} (hU : vd P H U) : ∃ v, 0 ≤ v ∧ v < lvN P ∧ lvB P H v = true ∧ ∀ p, 0 ≤ p → p < P → dg P v p = U p := by
  obtain ⟨a, b, c⟩ := hv_q (H := H) hH P.toNat (fun p p0 p1 => hU p p0 (by omega))
  have dd : ∀ p, 0 ≤ p → p < P → dg P (hvN U P.toNat) p = U p := fun p p0 p1 => by
    have := c p p0 (by omega)
    rw [show ((P.toNat : Nat) : Int) = P by omega] at this
    exact this
  refine ⟨hvN U P.toNat, a, ((lm6 (P := P) (by omega) (by omega)).2.2 _ a).mpr b, (lv_iff (by omega)).mpr ⟨b, fun p p0 p1 => ?_⟩, dd⟩
  rw [dd p p0 p1]; exact (hU p p0 p1).2
theorem lv_vd {P H v : Int} (hP : 0 ≤ P) (h : lvB P H v = true) : vd P H (dg P v) := fun p p0 p1 => ⟨Int.emod_nonneg _ (by omega), ((lv_iff hP).mp h).2 p p0 p1⟩
/-- a living is lawful on a day -/
def gB (M : Sto) (Ls : List (List Cl)) (x v : Int) : Bool := lvB (M 0 0) (M 0 1) v && gdD M Ls x (dg (M 0 0) v)
/-- what it costs to be there -/
def cv (M : Sto) (Ls : List (List Cl)) (k : Nat) (v : Int) : Int := if lvB (M 0 0) (M 0 1) v = true then mvF M Ls k (dg (M 0 0) v) else 1000000
theorem cv_b (w : wfM M Ls) {k : Nat} {v : Int} : 0 ≤ cv M Ls k v ∧ cv M Ls k v ≤ 1000000 := by
  unfold cv
  have := mvF_bd w k (dg (M 0 0) v)
  split <;> omega
theorem cv_same (w : wfM M Ls) (hp : smP (M 0 1) (M 0 0)) {k : Nat} (h : ∀ v, 0 ≤ v → v < lvN (M 0 0) → gB M Ls (M 0 2 + ((k + 1 : Nat) : Int)) v = gB M Ls (M 0 2 + (k : Int)) v) (v : Int) : cv M Ls (k + 1) v = cv M Ls k v := by
  unfold cv
  by_cases c : lvB (M 0 0) (M 0 1) v = true
  · rw [if_pos c, if_pos c]
    refine mvF_same w (fun D hD => ?_) _ (lv_vd w.sc.1 c)
    obtain ⟨y, y0, y1, y2, y3⟩ := hv_ex ⟨hp.2.2.1, hp.2.2.2⟩ (by have := hp.2.1; omega) hD
    have := h y y0 y1
    unfold gB at this
    rw [y2, Bool.true_and, Bool.true_and, gdD_cg w y3, gdD_cg w y3] at this
    exact this
  · rw [if_neg c, if_neg c]
/-- the least over all livings -/
def mnR (N : Int) (c : Int → Int) (v x : Int) : Prop := x ≤ c v ∧ (∀ u, 0 ≤ u → u < N → x ≤ c u + unZ u v) ∧ (x = c v ∨ ∃ u, 0 ≤ u ∧ u < N ∧ c u < c v ∧ x = c u + unZ u v)
theorem cv_next (w : wfM M Ls) (hp : smP (M 0 1) (M 0 0)) {k : Nat} {v x : Int} (v0 : 0 ≤ v) (v1 : v < lvN (M 0 0)) (h : if gB M Ls (M 0 2 + ((k + 1 : Nat) : Int)) v = true then mnR (lvN (M 0 0)) (cv M Ls k) v x else x = 1000000) : x = cv M Ls (k + 1) v := by
  obtain ⟨z1, z2, z3, z4⟩ := id hp
  by_cases c : lvB (M 0 0) (M 0 1) v = true
  · have cv1 : cv M Ls (k + 1) v = mvF M Ls (k + 1) (dg (M 0 0) v) := if_pos c
    have cv0 : cv M Ls k v = mvF M Ls k (dg (M 0 0) v) := if_pos c
    rw [cv1, mvF]
    unfold gB at h
    rw [c, Bool.true_and] at h
    by_cases g : gdD M Ls (M 0 2 + ((k + 1 : Nat) : Int)) (dg (M 0 0) v) = true
    · rw [if_pos g] at h ⊢
      obtain ⟨h1, h2, h3⟩ := h
      have hD := lv_vd w.sc.1 c
      have bb := mvF_bd w k
      refine mnP.un ⟨by rw [cv0] at h1; have := (bb (dg (M 0 0) v)).2; omega, fun U hU => ?_, ?_⟩ (spr_P w.sc.1 bb (mvF_ex w k) hD)
      · obtain ⟨y, y0, y1, y2, y3⟩ := hv_ex ⟨z3, z4⟩ (by omega) hU
        have := h2 y y0 y1
        rw [un_eq z3 z4 y0 y1 v0 v1, show cv M Ls k y = mvF M Ls k (dg (M 0 0) y) from if_pos y2, mvF_ex w k _ U y3, hmg_cg (M 0 0).toNat (fun q q0 q1 => ⟨y3 q q0 (by omega), rfl⟩)] at this
        exact this
      · rcases h3 with e | ⟨u, u0, u1, u2, e⟩
        · exact Or.inr ⟨dg (M 0 0) v, hD, by rw [hmg_0, e, cv0]; omega⟩
        · have cu : lvB (M 0 0) (M 0 1) u = true := by
            refine Classical.byContradiction (fun z => ?_)
            have e2 : cv M Ls k u = 1000000 := if_neg z
            rw [cv0] at u2
            have := (bb (dg (M 0 0) v)).2
            omega
          refine Or.inr ⟨dg (M 0 0) u, lv_vd w.sc.1 cu, ?_⟩
          rw [e, un_eq z3 z4 u0 u1 v0 v1, show cv M Ls k u = mvF M Ls k (dg (M 0 0) u) from if_pos cu]
    · rw [if_neg g] at h ⊢
      exact h
  · have cv1 : cv M Ls (k + 1) v = 1000000 := if_neg c
    unfold gB at h
    rw [if_neg (by rw [Bool.eq_false_iff.mpr c, Bool.false_and]; decide)] at h
    rw [cv1]; exact h
theorem cv_min (w : wfM M Ls) (hp : smP (M 0 1) (M 0 0)) {n : Int} : mnH (cv M Ls (n - 1).toNat) (lvN (M 0 0)).toNat = mvZ M Ls n := by
  obtain ⟨z1, z2, z3, z4⟩ := id hp
  have lb := lvN_b z3 z4
  have sb := stN_b hp
  unfold mvZ
  have l1 : mnH (cv M Ls (n - 1).toNat) (lvN (M 0 0)).toNat ≤ mnH (fun s => mvF M Ls (n - 1).toNat (hm (M 0 1) (M 0 0) s)) (stN (M 0 1) (M 0 0)).toNat := by
    rcases mnH_ex (g := fun s => mvF M Ls (n - 1).toNat (hm (M 0 1) (M 0 0) s)) (stN (M 0 1) (M 0 0)).toNat with e | ⟨s, s0, s1, e⟩
    · rw [e]; exact (mnH_le _).1
    · rw [e]
      obtain ⟨y, y0, y1, y2, y3⟩ := hv_ex ⟨z3, z4⟩ (by omega) (hm_vd (s := s) hp)
      have := (mnH_le (g := cv M Ls (n - 1).toNat) (lvN (M 0 0)).toNat).2 y y0 (by omega)
      rw [show cv M Ls (n - 1).toNat y = mvF M Ls (n - 1).toNat (dg (M 0 0) y) from if_pos y2, mvF_ex w _ _ _ y3] at this
      exact this
  have l2 : mnH (fun s => mvF M Ls (n - 1).toNat (hm (M 0 1) (M 0 0) s)) (stN (M 0 1) (M 0 0)).toNat ≤ mnH (cv M Ls (n - 1).toNat) (lvN (M 0 0)).toNat := by
    rcases mnH_ex (g := cv M Ls (n - 1).toNat) (lvN (M 0 0)).toNat with e | ⟨v, v0, v1, e⟩
    · rw [e]; exact (mnH_le _).1
    · rw [e]
      by_cases c : lvB (M 0 0) (M 0 1) v = true
      · obtain ⟨s, s0, s1, s2⟩ := st_ex hp (lv_vd w.sc.1 c)
        have := (mnH_le (g := fun s => mvF M Ls (n - 1).toNat (hm (M 0 1) (M 0 0) s)) (stN (M 0 1) (M 0 0)).toNat).2 s s0 (by omega)
        try dsimp only at this
        rw [mvF_ex w _ _ _ s2] at this
        rw [show cv M Ls (n - 1).toNat v = mvF M Ls (n - 1).toNat (dg (M 0 0) v) from if_pos c]
        exact this
      · rw [show cv M Ls (n - 1).toNat v = 1000000 from if_neg c]; exact (mnH_le _).1
  omega
end
