theorem va_P_l {D : va_G} {cl : List vw_C} {w x : va_W} {H : Heap} (h : va_P D cl (w ++ x) H) : va_P D cl w H := fun k q hk => h k q (by rw [List.getElem?_append_left (List.getElem?_eq_some_iff.mp hk).1]; exact hk)
theorem va_P_r {D : va_G} {cl : List vw_C} {w x : va_W} {H : Heap} (h : va_P D cl (w ++ x) H) : va_P D cl x H := fun k q hk => h (w.length + k) q (by rw [List.getElem?_append_right (by omega), Nat.add_sub_cancel_left]; exact hk)
theorem va_D_ap {A : Nat → Prop} {w : va_W} {x : Nat × va_E} (h : va_D A (w ++ [x])) : (∀ (k : Nat) (q : Nat × va_E), w[k]? = some q → q.1 ≠ x.1) ∧ A x.1 := by
  have hx : (w ++ [x])[w.length]? = some x := by simp
  refine ⟨fun k q hk e => ?_, h.2 _ _ hx⟩
  have hlt := (List.getElem?_eq_some_iff.mp hk).1
  have := h.1 k w.length q x (by rw [List.getElem?_append_left hlt]; exact hk) hx e
  omega
theorem new_fs {ad : Nat → Nat} {ci : Nat} (hc : ci < 13) : ∀ j, j < axN ci → defaultValue (axTy ci j) = vp_V ((axD ci).mapIdx (fun j f => fV ad ci (fun _ => 0) j f)) j := by
  obtain ⟨q1, q2, q3, q4, q5, q6, q7, q8, q9⟩ := klsT hc
  intro j hj
  by_cases hp : isJ (axTy ci j) = true ∨ isP (axTy ci j) = true
  · simp only [vp_V, List.getD_eq_getElem?_getD]
    rw [fV_get (q8 j hj hp)]
    cases ht : axTy ci j <;> rw [ht] at hp <;> first | (simp [isJ, isP] at hp; done) | (simp only [Option.getD_some, fV, ht]; rfl)
  · simp only [vp_V, List.getD_eq_getElem?_getD]
    rw [fV_get (q9 j hj hp).1]
    have h3 := (q9 j hj hp).2
    cases ht : axTy ci j <;> rw [ht] at h3 <;> first | (cases h3; done) | rfl
theorem new_ok {ci : Nat} (hc : ci < 13) : sOK (sh0 ci) sz0 := by
  obtain ⟨q1, q2, q3, q4, q5, q6, q7, q8, q9⟩ := klsT hc
  intro k q hk
  have hq : q = .inl (ci, axD ci) := by
    have := List.mem_of_getElem? hk
    unfold sh0 at this
    exact List.mem_singleton.mp this
  subst hq
  refine ⟨fun j hj => ?_, fun j r hj => ?_⟩
  · have hjl : j < axN ci := by rw [← q5]; exact (List.getElem?_eq_some_iff.mp hj).1
    by_cases hp : isJ (axTy ci j) = true ∨ isP (axTy ci j) = true
    · cases ht : axTy ci j <;> rw [ht] at hp <;> first | (simp [isJ, isP] at hp; done) | exact r32_0 | exact r64_0 | exact Or.inl rfl
    · rw [(q9 j hjl hp).1] at hj; cases hj
  · have hjl : j < axN ci := by rw [← q5]; exact (List.getElem?_eq_some_iff.mp hj).1
    by_cases hp : isJ (axTy ci j) = true ∨ isP (axTy ci j) = true
    · rw [q8 j hjl hp] at hj; cases hj
    · rw [(q9 j hjl hp).1] at hj; cases hj; intro k hk; cases hk
section
variable {p : Program} {l : Launch} {e : Env} {s : State} {m : MethodId} {below : List Frame} {meth : Method} {c : Code} {D : va_G} {cA : FieldType → ClassId} {b : Nat} {H : Heap} {locs : List Loc} {cells slots : Nat} {Q : State → Prop} {lsA : Array Slot}
theorem W_callN {R : Room} {args : Array Value} {ad : Nat → Nat} {pc : Nat} {A B : Nat → Prop} {mc ms n0 : Nat} {r : Option AV} {sh1 : List Kd} {σ1 : Sto} {arr : Array Value} {st0 rest : List Value} (hr : va_Run p l e R s m args below meth c H locs cells slots mc ms (F0 m pc lsA st0) rest (aQ D cA A ad n0 r sh1 σ1 arr) A) (hS : va_S B s.heap H locs) (hAB : ∀ q, A q → B q)
    (kk : ∀ (ad' : Nat → Nat) (H1 : Heap) (locs1 : List Loc), Ag n0 ad ad' → va_P D vwCl (wl ad' cA sh1 σ1) H1 → va_D A (wl ad' cA sh1 σ1) → H.size ≤ H1.size → (∀ q : Nat, q < H.size → ¬ A q → H1[q]? = H[q]?) → va_S B s.heap H1 locs1 → sOK sh1 σ1 → W p l e R s m args below meth c H1 locs1 (cells + mc) (slots + ms) Q (F0 m (pc + 3) lsA ((r.map (cV ad')).toList ++ rest))) : W p l e R s m args below meth c H locs cells slots Q (F0 m pc lsA st0) := by
  intro T hT X
  obtain ⟨v, st₀, t, T', L, h0, X', hL, e1, e2, ⟨ad', a1, a2, a3, a4, ⟨hz, hk⟩, a6, a7, a8, a9⟩, stp⟩ := hr T hT X
  cases a2
  rw [h0] at hz hk
  obtain ⟨t2, b1, b2⟩ := kk ad' T'.heap (locs ++ L) a1 (by rw [e1]; exact a3) a4 (by rw [e1]; exact hz) (fun q h1 h2 => by rw [e1]; exact hk q h1 h2) ⟨Nat.le_trans hS.1 (by rw [e1]; exact hz), fun q h1 h2 => by rw [e1, hk q (Nat.lt_of_lt_of_le h1 hS.1) (fun z => h2 (hAB q z))]; exact hS.2.1 q h1 h2, fun q hq => by
    rcases List.mem_append.mp hq with h | h
    · exact hS.2.2 q h
    · exact hAB _ (hL q h)⟩ a6 T' rfl X'
  exact ⟨t2, stp t2 b1, b2⟩
set_option maxHeartbeats 4000000 in
theorem lw_ctor {ci pc idxN idxI f c1 s1 : Nat} {y : MEnt} {sh1 : List Kd} {σ1 : Sto} {ax : Nat → Nat} {ws : va_W} (hx : p.tables.exec = Jvm.exec) (hb : c.code = code) (hml : c.maxLocals = 7) (hown : s.vm.findClass RL = some m.cls) (hts : ∀ w ∈ gwT, w.before #[Value.ref b] s = true)
    (hci : ci < 13) (hcl : Cond.classLink RL idxN (axR ci) ∈ gwT) (hV : Val y) (hy : (eY y).name = "<init>" ∧ eR y = none ∧ eN y = 0 ∧ 1 ≤ eL y) (k1 : Cond.methodLink RL idxI (eY y) ∈ gwT) (k2 : Cond.instanceMethod (eY y) ∈ gwT) (k4 : Cond.initialized (eY y).cls ∈ gwT)
    (d0 : decode code pc = .ok (.new idxN, 3)) (d3 : decode code (pc + 3) = .ok (.dup, 1)) (d4 : decode code (pc + 4) = .ok (.invokespecial idxI, 3))
    (hex : exec f 6 y 0 (entL (eL y) [.inr (.inr (some 0))]) [] (sh0 ci) sz0 = some (none, sh1, σ1, c1, s1))
    (he : ∀ q, wl (fun k => if k = 0 then q else ax k) cA (sh0 ci) sz0 = [(q, .inr (ci, (axD ci).mapIdx (fun j f => fV ax ci (fun _ => 0) j f)))])
    (hsz : lsA.size = 7) (hK : va_K D vwCl (axtys cA) s) (hX : Xt ax (A0 s) s s.heap) (hP : va_P D vwCl ws H) (hD : va_D (A0 s) ws) (hS : va_S (A0 s) s.heap H locs) (hce : cells + 1 + c1 ≤ room_1.cells) (hsl : slots + axN ci + s1 ≤ room_1.slots)
    (kk : ∀ (ad : Nat → Nat) (H1 : Heap) (locs1 : List Loc), va_P D vwCl (wl ad cA sh1 σ1) H1 → va_P D vwCl ws H1 → (∀ i j, i < sh1.length → j < sh1.length → ad i = ad j → i = j) → (∀ i, i < sh1.length → s.heap.size ≤ ad i) → (∀ i, i < sh1.length → ∀ (k : Nat) (x : Nat × va_E), ws[k]? = some x → ad i ≠ x.1) → Xt ad (A0 s) s s.heap → sOK sh1 σ1 → va_S (A0 s) s.heap H1 locs1 → W p l e room_1 s m #[Value.ref b] below meth c H1 locs1 (cells + 1 + c1) (slots + axN ci + s1) Q (F0 m (pc + 7) lsA [.ref (ad 0)])) :
    W p l e room_1 s m #[Value.ref b] below meth c H locs cells slots Q (F0 m pc lsA []) := by
  obtain ⟨q1, q2, q3, q4, q5, q6, q7, q8, q9⟩ := klsT hci
  refine va_new (own := RL) (C := axR ci) (T := axT ci) (N := axN ci) (Ts := gwT) (fs := (axD ci).mapIdx (fun j f => fV ax ci (fun _ => 0) j f)) hx hb hts q2 (axTy ci) q4 hown (hts _ hcl) (hts _ q6) (hts _ q7) hK hP hD hS (fun q h => h) q1 (new_fs hci) (by omega) (by omega) d0 fun q H1 hP1 hD1 hS1 => ?_
  obtain ⟨dq1, dq2⟩ := va_D_ap hD1
  have hws := va_P_l hP1
  have hob := va_P_r hP1
  rw [← he q] at hob
  refine lv_dup hx hb d3 rfl ?_
  have hsub : ∀ z, wA (fun k => if k = 0 then q else ax k) 1 H1 z → A0 s z := fun z h => by
    rcases h with ⟨i, i1, rfl⟩ | h
    · have : i = 0 := by omega
      subst this
      exact dq2
    · exact Nat.le_trans hS1.1 h
  have hM := met_of (l := l) (sound l f) hV hex (by show 1 ≤ eL y; exact hy.2.2.2) (fun v hv => by
    rw [List.mem_singleton] at hv
    subst hv
    exact fun k hk => by cases hk; exact Or.inl (by show 0 < 1; decide)) (new_ok hci) (by show 1 ≤ 900; decide) D cA (wA (fun k => if k = 0 then q else ax k) 1 H1) (fun k => if k = 0 then q else ax k)
  have hws' : ∀ w ∈ (Cond.code (eY y) (eB y) (eL y) (eR y) :: gwT), ∀ (a' : Array Value) (U : State), s.WarmedH U.vm → w.before a' U = true := sx_ws hV.1 hts
  have hcd := hts _ hV.1
  rw [hy.2.1] at hM hws' hcd
  have hag : Ag 0 ax (fun k => if k = 0 then q else ax k) := fun k hk => by
    have : k ≠ 0 := by omega
    show (if k = 0 then q else ax k) = ax k
    rw [if_neg this]
  have run := va_runI (l := l) (e := e) (R := room_1) (below := below) (meth := meth) (H := H1) (locs := locs) (cells := cells + 1) (slots := slots + axN ci) (b := q) (As := []) (rest := [.ref q]) (g := F0 m (pc + 4) lsA [.ref q, .ref q]) (Ts := gwT) (own := RL) (index := idxI) (n := 0) ⟨hx, hb, hml, hown, hts⟩ hM
    ⟨⟨rfl, rfl, by show 6 + 4 + 1 ≤ 2048; decide, by have := hV.2.2.2.2.1; show 8 + (eL y + 11) + (50 * 6 + 300) ≤ 84000; omega, hws', List.mem_cons_self, hcd, hts _ k4, hV.2.2.1, by have := par_of hV.2.2.2.1; rw [hy.2.2.1] at this; exact this, hts _ k1⟩, hy.1, hts _ k2⟩
    ⟨aP_blind, fun U hU hW => ⟨rfl, by rw [hU]; exact hob, va_K.moved hW.alike hK, wl_D (fun i j hi hj _ => by have hi : i < 1 := hi; have hj : j < 1 := hj; omega) (fun i hi => Or.inl ⟨i, hi, rfl⟩), fun z hz => Or.inr (by rw [hU] at hz; exact hz), Xt_nar (Xt_ag hag (Xt_kept hX hW (fun a h1 h2 => by rw [hU]; exact hS1.2.1 a h1 h2))) hsub⟩⟩
    rfl rfl hsz rfl (lv_room (Nat.le_of_ble_eq_true rfl)) d4 ⟨hce, hsl⟩
  refine W_callN run hS1 hsub (fun ad H2 locs2 a1 a2 aD a3 a4 a5 a6 => ?_)
  have hq0 : ad 0 = q := a1 0 (Or.inl (by show 0 < 1; decide))
  have hne : ∀ (k : Nat) (x : Nat × va_E), ws[k]? = some x → ¬ wA (fun k => if k = 0 then q else ax k) 1 H1 x.1 := fun k x hk h => by
    rcases h with ⟨i, i1, h2⟩ | h
    · have : i = 0 := by omega
      subst this
      exact dq1 k x hk h2
    · have := vx_lt hws hk
      omega
  have K := kk ad H2 locs2 a2 (va_P_out hws (fun k x hk hlt => a4 x.1 hlt (hne k x hk))) (fun i j hi hj e => by
    obtain ⟨x, hx1⟩ : ∃ x, sh1[i]? = some x := ⟨_, List.getElem?_eq_getElem hi⟩
    obtain ⟨z, hz1⟩ : ∃ z, sh1[j]? = some z := ⟨_, List.getElem?_eq_getElem hj⟩
    exact aD.1 i j _ _ (wl_at hx1) (wl_at hz1) e) (fun i hi => by
    obtain ⟨x, hx1⟩ : ∃ x, sh1[i]? = some x := ⟨_, List.getElem?_eq_getElem hi⟩
    exact hsub _ (aD.2 i _ (wl_at hx1))) (fun i hi k x hk e => by
    obtain ⟨z, hz1⟩ : ∃ z, sh1[i]? = some z := ⟨_, List.getElem?_eq_getElem hi⟩
    have := aD.2 i _ (wl_at hz1)
    exact hne k x hk (by rw [← e]; exact this)) (Xt_ag (n := 0) (fun k hk => by
    have h1 : 1000 ≤ k := by omega
    rw [a1 k (Or.inr h1)]
    exact hag k hk) hX) a6 a5
  rw [hq0] at K
  exact K
end
