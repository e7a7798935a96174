def sxP (adK adV : Nat → Nat) (sz : Nat) (U : State) : Prop := U.heap.size = sz ∧ vk_S 4 [1, 5, 3, 2] [[121], [97, 98, 120, 121, 110], [121, 100, 104], [109, 99]] adK adV (fun q => sz ≤ q) U U.heap ∧ va_Z "java/lang/String" "COMPACT_STRINGS" "Z" (.int 1) (fun q => sz ≤ q) U U.heap ∧ va_Zq "jdk/internal/util/Preconditions" "SIOOBE_FORMATTER" "Ljava/util/function/BiFunction;" (fun q => sz ≤ q) U U.heap
theorem sxP_blind {adK adV : Nat → Nat} {sz : Nat} {av : List Value} : FrameBlind (va_Pc av (sxP adK adV sz)) := by
  intro a U g mk h
  obtain ⟨h0, h1, h2, h3, h4⟩ := h
  exact ⟨h0, h1, vk_S.moved (u := U) (U := U.calling g mk a) (Vm.Alike.refl U.vm) h2, va_Z.moved (u := U) (U := U.calling g mk a) (Vm.Alike.refl U.vm) h3, va_Zq.moved (u := U) (U := U.calling g mk a) (Vm.Alike.refl U.vm) h4⟩
theorem sxP_at {adK adV : Nat → Nat} {sz sz' : Nat} {s U : State} {H : Heap} (h : sxP adK adV sz s) (hle : sz ≤ sz') (hH : H.size = sz') (hk : ∀ a : Nat, a < s.heap.size → ¬ sz ≤ a → H[a]? = s.heap[a]?) (hU : U.heap = H) (hW : s.WarmedH U.vm) : sxP adK adV sz' U := by
  obtain ⟨h1, h2, h3, h4⟩ := h
  have nr : ∀ q : Nat, sz' ≤ q → sz ≤ q := fun q h => Nat.le_trans hle h
  refine ⟨by rw [hU]; exact hH, ?_, ?_, ?_⟩
  · rw [hU]; exact ((h2.moved hW.alike).kept hk).narrow nr
  · rw [hU]; exact ((h3.moved hW.alike).kept hk).narrow nr
  · rw [hU]; exact ((h4.moved hW.alike).kept hk).narrow nr
theorem sx_ws {s : State} {args : Array Value} {w0 : Cond} (hy : w0 ∈ gwT) (hts : ∀ w ∈ gwT, w.before args s = true) : ∀ w ∈ (w0 :: gwT), ∀ (a' : Array Value) (U : State), s.WarmedH U.vm → w.before a' U = true := fun w hw a' U hW => by
  have : w ∈ gwT := by
    rcases List.mem_cons.mp hw with rfl | h
    · exact hy
    · exact h
  exact word_at hW (good_of_word (gw_good this)) (hts w this)
theorem par_of {d : String} {n : Nat} (h : (parseMethodDescriptor d).map (fun x => x.parameters.length) = some n) : ∀ sig, parseMethodDescriptor d = some sig → n = sig.parameters.length := fun sig hs => by
  rw [hs] at h
  exact (Option.some.inj h).symm
def rS (f n : Nat) : Room := { frames := f, cells := 0, slots := 0, locals := n }
set_option maxHeartbeats 4000000 in
set_option maxRecDepth 100000 in
theorem sx_cod (l : Launch) (adK adV : Nat → Nat) (sz i : Nat) (hi : i < 4) : Met l yS_cod (Cond.code yS_cod bS_cod 1 (some .byte) :: gwT) (rS 0 0) (va_Pc [.ref (adK i)] (sxP adK adV sz)) (va_Qi (fun r (_ : Unit) => r = 0) (fun _ _ => True) (fun q => sz ≤ q)) 0 0 (fun q => sz ≤ q) := by
  refine Met.ofW (cc := bS_cod) (maxL := 1) (ret := some .byte) (by decide) rfl ?_
  intro p e s m args below meth c s₁ B hml hv
  obtain ⟨rfl, hsz, hE, hZ, hq⟩ := hv
  have hx := B.exec
  have hb := B.bytes
  have hr := B.returns
  have hts0 := atoms_spec (ws := Cond.code yS_cod bS_cod 1 (some .byte) :: gwT) B.pre
  have hts : ∀ w ∈ gwT, w.before _ s = true := fun w hw => hts0 w (List.mem_cons_of_mem _ hw)
  have hown : s.vm.findClass "java/lang/String" = some m.cls := findClass_of_methodNamed B.named
  have hlocks := B.notSynchronized
  have hS : va_S (fun q : Nat => sz ≤ q) s.heap s.heap [] := va_S.rf
  have hl := lv_entry ([.ref (adK i)]) (n := 1) (Nat.le_of_ble_eq_true rfl)
  rw [lg_entry_eq]
  generalize (lg_sl ([.ref (adK i)]) ++ List.replicate (1 - (lg_sl ([.ref (adK i)])).length) Slot.unset).toArray = ls at hl ⊢
  have hl : lv_has ls 1 [(0, .ref (adK i))] := hl
  refine va_gets hx hb hZ hS hown (hts _ wS_fcs) (fun _ h9 => h9) dS_cod_0 ?_
  refine lv_if_eq (tgt := 13) hx hb dS_cod_3 (by decide) (fun c => absurd c (by decide)) (fun _ => ?_)
  refine lv_aload_n hx hb dS_cod_6 rfl (lv_at hl 0 rfl) ?_
  refine vk_getf hx hb (hE.1 i hi).2.1 hS hown (hts _ wS_fcod) (fun _ h9 => h9) dS_cod_7 ?_
  refine lv_goto (tgt := 14) hx hb dS_cod_10 (by decide) ?_
  exact W.zret hx hb hr rfl (fun t ht hW => ⟨⟨0, (), rfl, rfl, trivial⟩, hS.F ht⟩) hS.2.2 dS_cod_14
set_option maxHeartbeats 4000000 in
set_option maxRecDepth 100000 in
theorem sx_isl (l : Launch) (adK adV : Nat → Nat) (sz i : Nat) (hi : i < 4) : Met l yS_isl (Cond.code yS_isl bS_isl 1 (some .boolean) :: gwT) (rS 0 0) (va_Pc [.ref (adK i)] (sxP adK adV sz)) (va_Qi (fun r (_ : Unit) => r = 1) (fun _ _ => True) (fun q => sz ≤ q)) 0 0 (fun q => sz ≤ q) := by
  refine Met.ofW (cc := bS_isl) (maxL := 1) (ret := some .boolean) (by decide) rfl ?_
  intro p e s m args below meth c s₁ B hml hv
  obtain ⟨rfl, hsz, hE, hZ, hq⟩ := hv
  have hx := B.exec
  have hb := B.bytes
  have hr := B.returns
  have hts0 := atoms_spec (ws := Cond.code yS_isl bS_isl 1 (some .boolean) :: gwT) B.pre
  have hts : ∀ w ∈ gwT, w.before _ s = true := fun w hw => hts0 w (List.mem_cons_of_mem _ hw)
  have hown : s.vm.findClass "java/lang/String" = some m.cls := findClass_of_methodNamed B.named
  have hlocks := B.notSynchronized
  have hS : va_S (fun q : Nat => sz ≤ q) s.heap s.heap [] := va_S.rf
  have hl := lv_entry ([.ref (adK i)]) (n := 1) (Nat.le_of_ble_eq_true rfl)
  rw [lg_entry_eq]
  generalize (lg_sl ([.ref (adK i)]) ++ List.replicate (1 - (lg_sl ([.ref (adK i)])).length) Slot.unset).toArray = ls at hl ⊢
  have hl : lv_has ls 1 [(0, .ref (adK i))] := hl
  refine va_gets hx hb hZ hS hown (hts _ wS_fcs) (fun _ h9 => h9) dS_isl_0 ?_
  refine lv_if_eq (tgt := 17) hx hb dS_isl_3 (by decide) (fun c => absurd c (by decide)) (fun _ => ?_)
  refine lv_aload_n hx hb dS_isl_6 rfl (lv_at hl 0 rfl) ?_
  refine vk_getf hx hb (hE.1 i hi).2.1 hS hown (hts _ wS_fcod) (fun _ h9 => h9) dS_isl_7 ?_
  refine lv_if_ne (tgt := 17) hx hb dS_isl_10 (by decide) (fun c => absurd rfl c) (fun _ => ?_)
  refine lv_iconst (v := 1) hx hb dS_isl_13 (by decide) ?_
  refine lv_goto (tgt := 18) hx hb dS_isl_14 (by decide) ?_
  exact W.zret hx hb hr rfl (fun t ht hW => ⟨⟨1, (), rfl, rfl, trivial⟩, hS.F ht⟩) hS.2.2 dS_isl_18
set_option maxHeartbeats 4000000 in
set_option maxRecDepth 100000 in
theorem sx_pre (l : Launch) (sz : Nat) (k n : Int32) (v : Value) (hv : v = .null ∨ ∃ t, v = .ref t) (h0 : ¬ k < 0) (h1 : k < n) : Met l yS_pre (Cond.code yS_pre bS_pre 3 (some .int) :: gwT) (rS 0 0) (va_Pc [.int k, .int n, v] (fun U => U.heap.size = sz)) (va_Qi (fun r (_ : Unit) => r = k) (fun _ _ => True) (fun q => sz ≤ q)) 0 0 (fun q => sz ≤ q) := by
  refine Met.ofW (cc := bS_pre) (maxL := 3) (ret := some .int) (by decide) rfl ?_
  intro p e s m args below meth c s₁ B hml hv1
  obtain ⟨rfl, hsz⟩ := hv1
  have hx := B.exec
  have hb := B.bytes
  have hr := B.returns
  have hlocks := B.notSynchronized
  have hS : va_S (fun q : Nat => sz ≤ q) s.heap s.heap [] := va_S.rf
  have hl : ∃ ls : Array Slot, entryFrame m ([.int k, .int n, v] : List Value).toArray 3 = F0 m 0 ls [] ∧ lv_has ls 3 [(0, .int k), (1, .int n)] := by
    rcases hv with rfl | ⟨t, rfl⟩
    · have hl := lv_entry ([.int k, .int n, .null]) (n := 3) (Nat.le_of_ble_eq_true rfl)
      exact ⟨_, lg_entry_eq m _ 3, lv_sub hl [0, 1] rfl⟩
    · have hl := lv_entry ([.int k, .int n, .ref t]) (n := 3) (Nat.le_of_ble_eq_true rfl)
      exact ⟨_, lg_entry_eq m _ 3, lv_sub hl [0, 1] rfl⟩
  obtain ⟨ls, he, hl⟩ := hl
  rw [he]
  refine lv_iload_n hx hb dS_pre_0 rfl (lv_at hl 0 rfl) ?_
  refine lv_if_lt (tgt := 9) hx hb dS_pre_1 (by decide) (fun c => absurd c h0) (fun _ => ?_)
  refine lv_iload_n hx hb dS_pre_4 rfl (lv_at hl 0 rfl) ?_
  refine lv_iload_n hx hb dS_pre_5 rfl (lv_at hl 1 rfl) ?_
  refine lv_icmp_lt (tgt := 16) hx hb dS_pre_6 (by decide) (fun _ => ?_) (fun c => absurd h1 c)
  refine lv_iload_n hx hb dS_pre_16 rfl (lv_at hl 0 rfl) ?_
  exact W.iret hx hb hr (fun t ht hW => ⟨⟨k, (), rfl, rfl, trivial⟩, hS.F ht⟩) hS.2.2 dS_pre_17
theorem sz_blind {sz : Nat} {av : List Value} : FrameBlind (va_Pc av (fun U => U.heap.size = sz)) := fun a U g mk h => h
set_option maxHeartbeats 4000000 in
set_option maxRecDepth 100000 in
theorem sx_chk (l : Launch) (adK adV : Nat → Nat) (sz : Nat) (k n : Int32) (h0 : ¬ k < 0) (h1 : k < n) : Met l yS_chk (Cond.code yS_chk bS_chk 2 none :: gwT) (rS 1 22) (va_Pc [.int k, .int n] (sxP adK adV sz)) (va_Qv (fun (_ : Unit) => True) (fun _ _ => True) (fun q => sz ≤ q)) 0 0 (fun q => sz ≤ q) := by
  refine Met.ofW (cc := bS_chk) (maxL := 2) (ret := none) (by decide) rfl ?_
  intro p e s m args below meth c s₁ B hml hv
  obtain ⟨rfl, hsz, hE, hZ, hq⟩ := hv
  have hx := B.exec
  have hb := B.bytes
  have hr := B.returns
  have hts0 := atoms_spec (ws := Cond.code yS_chk bS_chk 2 none :: gwT) B.pre
  have hts : ∀ w ∈ gwT, w.before _ s = true := fun w hw => hts0 w (List.mem_cons_of_mem _ hw)
  have hown : s.vm.findClass "java/lang/String" = some m.cls := findClass_of_methodNamed B.named
  have hlocks := B.notSynchronized
  have hS : va_S (fun q : Nat => sz ≤ q) s.heap s.heap [] := va_S.rf
  have hl := lv_entry ([.int k, .int n]) (n := 2) (Nat.le_of_ble_eq_true rfl)
  rw [lg_entry_eq]
  generalize (lg_sl ([.int k, .int n]) ++ List.replicate (2 - (lg_sl ([.int k, .int n])).length) Slot.unset).toArray = ls at hl ⊢
  have hl : lv_has ls 2 [(0, .int k), (1, .int n)] := hl
  obtain ⟨v, hv, hZv⟩ : ∃ v, (v = .null ∨ ∃ t, v = .ref t) ∧ va_Z "jdk/internal/util/Preconditions" "SIOOBE_FORMATTER" "Ljava/util/function/BiFunction;" v (fun q : Nat => sz ≤ q) s s.heap := by
    rcases hq with h | ⟨t, h⟩
    · exact ⟨_, Or.inl rfl, h⟩
    · exact ⟨_, Or.inr ⟨t, rfl⟩, h⟩
  refine lv_iload_n hx hb dS_chk_0 rfl (lv_at hl 0 rfl) ?_
  refine lv_iload_n hx hb dS_chk_1 rfl (lv_at hl 1 rfl) ?_
  refine va_gets hx hb hZv hS hown (hts _ wS_fsi) (fun _ h9 => h9) dS_chk_2 ?_
  refine va_calli (va_runS (As := [.int k, .int n, v]) (rest := []) ⟨hx, hb, hml, hown, hts⟩ (sx_pre l sz k n v hv h0 h1) ⟨⟨rfl, rfl, Nat.le_refl 1, Nat.le_refl 22, sx_ws wS_pre hts, List.mem_cons_self, hts _ wS_pre, hts _ wS_inP, ⟨by decide, by decide⟩, par_of (n := 3) (by decide +kernel), hts _ wS_mpre⟩, hts _ wS_tpre⟩ ⟨sz_blind, fun U hU hW => ⟨rfl, by show U.heap.size = sz; rw [hU]; exact hsz⟩⟩ rfl rfl hl.1 rfl (lv_room (Nat.le_of_ble_eq_true rfl)) dS_chk_5 ⟨Nat.le_refl 0, Nat.le_refl 0⟩) hS (fun q _ h => h) (fun q h => h) (fun r u t H1 locs ht hvm hw hB hz1 hk1 hS => ?_)
  refine lv_pop hx hb dS_chk_8 rfl ?_
  exact W.vret hx hb hr (fun t ht hW => ⟨⟨(), rfl, trivial, trivial⟩, hS.F ht⟩) hS.2.2 dS_chk_9
set_option maxHeartbeats 4000000 in
set_option maxRecDepth 100000 in
theorem sx_len (l : Launch) (adK adV : Nat → Nat) (sz i : Nat) (hi : i < 4) : Met l yS_len (Cond.code yS_len bS_len 1 (some .int) :: gwT) (rS 1 20) (va_Pc [.ref (adK i)] (sxP adK adV sz)) (va_Qi (fun r (_ : Unit) => r = Int32.ofNat (([1, 5, 3, 2] : List Nat).getD i 0)) (fun _ _ => True) (fun q => sz ≤ q)) 0 0 (fun q => sz ≤ q) := by
  refine Met.ofW (cc := bS_len) (maxL := 1) (ret := some .int) (by decide) rfl ?_
  intro p e s m args below meth c s₁ B hml hv
  obtain ⟨rfl, hX⟩ := hv
  obtain ⟨hsz, hE, hZ, hq⟩ := id hX
  have hx := B.exec
  have hb := B.bytes
  have hr := B.returns
  have hts0 := atoms_spec (ws := Cond.code yS_len bS_len 1 (some .int) :: gwT) B.pre
  have hts : ∀ w ∈ gwT, w.before _ s = true := fun w hw => hts0 w (List.mem_cons_of_mem _ hw)
  have hown : s.vm.findClass "java/lang/String" = some m.cls := findClass_of_methodNamed B.named
  have hlocks := B.notSynchronized
  have hS : va_S (fun q : Nat => sz ≤ q) s.heap s.heap [] := va_S.rf
  have hl := lv_entry ([.ref (adK i)]) (n := 1) (Nat.le_of_ble_eq_true rfl)
  rw [lg_entry_eq]
  generalize (lg_sl ([.ref (adK i)]) ++ List.replicate (1 - (lg_sl ([.ref (adK i)])).length) Slot.unset).toArray = ls at hl ⊢
  have hl : lv_has ls 1 [(0, .ref (adK i))] := hl
  refine lv_aload_n hx hb dS_len_0 rfl (lv_at hl 0 rfl) ?_
  refine vk_getf hx hb (hE.1 i hi).2.2.1 hS hown (hts _ wS_fval) (fun _ h9 => h9) dS_len_1 ?_
  refine va_tlen hx hb (hE.1 i hi).2.2.2 hS rfl dS_len_4 ?_
  refine lv_aload_n hx hb dS_len_5 rfl (lv_at hl 0 rfl) ?_
  refine va_calli (va_runV (C := "java/lang/String") (As := []) (rest := [.int (Int32.ofNat (([1, 5, 3, 2] : List Nat).getD i 0))]) ⟨hx, hb, hml, hown, hts⟩ (sx_cod l adK adV sz i hi) ⟨⟨rfl, rfl, Nat.le_refl 1, Nat.le_refl 20, sx_ws wS_cod hts, List.mem_cons_self, hts _ wS_cod, hts _ wS_inS, ⟨by decide, by decide⟩, par_of (by decide +kernel), hts _ wS_mcod⟩, hts _ wS_icod, hts _ wS_scod⟩ ⟨sxP_blind, vk_recv hE hi hS, fun U hU hW => ⟨rfl, sxP_at hX (Nat.le_refl _) hsz (fun _ _ _ => rfl) hU hW⟩⟩ rfl rfl hl.1 rfl (lv_room (Nat.le_of_ble_eq_true rfl)) dS_len_6 ⟨Nat.le_refl 0, Nat.le_refl 0⟩) hS (fun q _ h => h) (fun q h => h) (fun r u t H1 locs ht hvm hw hB hz1 hk1 hS => ?_)
  have hw : r = 0 := hw
  subst hw
  refine lv_ishr hx hb dS_len_9 ?_
  have e : (Int32.ofNat (([1, 5, 3, 2] : List Nat).getD i 0)) >>> ((0 : Int32) &&& 31) = Int32.ofNat (([1, 5, 3, 2] : List Nat).getD i 0) := by
    rcases (show i = 0 ∨ i = 1 ∨ i = 2 ∨ i = 3 by omega) with rfl | rfl | rfl | rfl <;> decide
  rw [e]
  exact W.iret hx hb hr (fun t ht hW => ⟨⟨_, (), rfl, rfl, trivial⟩, hS.F ht⟩) hS.2.2 dS_len_10
/-- the bytes of the texts -/
def sxC (i k : Nat) : Int32 := (([[121], [97, 98, 120, 121, 110], [121, 100, 104], [109, 99]] : List (List Int32)).getD i []).getD k 0
theorem sx_f {i k : Nat} (hi : i < 4) (hk : k < ([1, 5, 3, 2] : List Nat).getD i 0) : ¬ Int32.ofNat k < 0 ∧ Int32.ofNat k < Int32.ofNat (([1, 5, 3, 2] : List Nat).getD i 0) ∧ vp_in (Int32.ofNat k) (([1, 5, 3, 2] : List Nat).getD i 0) ∧ (Int32.ofNat k).toNatClampNeg = k ∧ ((sxC i k &&& 255).toUInt32 % 65536).toInt32 = sxC i k ∧ narrow .char (.int (sxC i k)) = .int (sxC i k) := by
  have h5 : k < 5 := by
    rcases (show i = 0 ∨ i = 1 ∨ i = 2 ∨ i = 3 by omega) with rfl | rfl | rfl | rfl <;> simp at hk <;> omega
  rcases (show i = 0 ∨ i = 1 ∨ i = 2 ∨ i = 3 by omega) with rfl | rfl | rfl | rfl <;> rcases (show k = 0 ∨ k = 1 ∨ k = 2 ∨ k = 3 ∨ k = 4 by omega) with rfl | rfl | rfl | rfl | rfl <;> first | (exfalso; revert hk; decide) | (refine ⟨by decide, by decide, by unfold vp_in; decide, by decide, by decide, by decide⟩)
set_option maxHeartbeats 4000000 in
set_option maxRecDepth 100000 in
theorem sx_lch (l : Launch) (adK adV : Nat → Nat) (sz i k : Nat) (hi : i < 4) (hk : k < ([1, 5, 3, 2] : List Nat).getD i 0) : Met l yS_lch (Cond.code yS_lch bS_lch 2 (some .char) :: gwT) (rS 2 43) (va_Pc [.ref (adV i), .int (Int32.ofNat k)] (sxP adK adV sz)) (va_Qi (fun r (_ : Unit) => r = sxC i k) (fun _ _ => True) (fun q => sz ≤ q)) 0 0 (fun q => sz ≤ q) := by
  obtain ⟨f1, f2, f3, f4, f5, f6⟩ := sx_f hi hk
  refine Met.ofW (cc := bS_lch) (maxL := 2) (ret := some .char) (by decide) rfl ?_
  intro p e s m args below meth c s₁ B hml hv
  obtain ⟨rfl, hX⟩ := hv
  obtain ⟨hsz, hE, hZ, hq⟩ := id hX
  have hx := B.exec
  have hb := B.bytes
  have hr := B.returns
  have hts0 := atoms_spec (ws := Cond.code yS_lch bS_lch 2 (some .char) :: gwT) B.pre
  have hts : ∀ w ∈ gwT, w.before _ s = true := fun w hw => hts0 w (List.mem_cons_of_mem _ hw)
  have hown : s.vm.findClass "java/lang/StringLatin1" = some m.cls := findClass_of_methodNamed B.named
  have hlocks := B.notSynchronized
  have hS : va_S (fun q : Nat => sz ≤ q) s.heap s.heap [] := va_S.rf
  have hl := lv_entry ([.ref (adV i), .int (Int32.ofNat k)]) (n := 2) (Nat.le_of_ble_eq_true rfl)
  rw [lg_entry_eq]
  generalize (lg_sl ([.ref (adV i), .int (Int32.ofNat k)]) ++ List.replicate (2 - (lg_sl ([.ref (adV i), .int (Int32.ofNat k)])).length) Slot.unset).toArray = ls at hl ⊢
  have hl : lv_has ls 2 [(0, .ref (adV i)), (1, .int (Int32.ofNat k))] := hl
  refine lv_iload_n hx hb dS_lch_0 rfl (lv_at hl 1 rfl) ?_
  refine lv_aload_n hx hb dS_lch_1 rfl (lv_at hl 0 rfl) ?_
  refine va_tlen hx hb (hE.1 i hi).2.2.2 hS rfl dS_lch_2 ?_
  refine va_callv (va_runS (As := [.int (Int32.ofNat k), .int (Int32.ofNat (([1, 5, 3, 2] : List Nat).getD i 0))]) (rest := []) ⟨hx, hb, hml, hown, hts⟩ (sx_chk l adK adV sz (Int32.ofNat k) (Int32.ofNat (([1, 5, 3, 2] : List Nat).getD i 0)) f1 f2) ⟨⟨rfl, rfl, Nat.le_refl 2, Nat.le_refl 43, sx_ws wS_chk hts, List.mem_cons_self, hts _ wS_chk, hts _ wS_inS, ⟨by decide, by decide⟩, par_of (n := 2) (by decide +kernel), hts _ wS_mchk⟩, hts _ wS_tchk⟩ ⟨sxP_blind, fun U hU hW => ⟨rfl, sxP_at hX (Nat.le_refl _) hsz (fun _ _ _ => rfl) hU hW⟩⟩ rfl rfl hl.1 rfl (lv_room (Nat.le_of_ble_eq_true rfl)) dS_lch_3 ⟨Nat.le_refl 0, Nat.le_refl 0⟩) hS (fun q _ h => h) (fun q h => h) (fun u t H1 locs ht hvm hw hB hz1 hk1 hS => ?_)
  refine lv_aload_n hx hb dS_lch_6 rfl (lv_at hl 0 rfl) ?_
  refine lv_iload_n hx hb dS_lch_7 rfl (lv_at hl 1 rfl) ?_
  refine va_tb hx hb (hE.1 i hi).2.2.2 hS f3 (v := .int (sxC i k)) (by rw [f4]; rfl) dS_lch_8 ?_
  refine lv_sipush (v := 255) hx hb dS_lch_9 (by decide) ?_
  refine lv_iand hx hb dS_lch_12 ?_
  refine lv_i2c hx hb dS_lch_13 f5 ?_
  exact W.zret hx hb hr f6 (fun t ht hW => ⟨⟨_, (), rfl, rfl, trivial⟩, hS.F ht⟩) hS.2.2 dS_lch_14
set_option maxHeartbeats 4000000 in
set_option maxRecDepth 100000 in
theorem sx_cha (l : Launch) (adK adV : Nat → Nat) (sz i k : Nat) (hi : i < 4) (hk : k < ([1, 5, 3, 2] : List Nat).getD i 0) : Met l yS_cha (Cond.code yS_cha bS_cha 2 (some .char) :: gwT) (rS 3 64) (va_Pc [.ref (adK i), .int (Int32.ofNat k)] (sxP adK adV sz)) (va_Qi (fun r (_ : Unit) => r = sxC i k) (fun _ _ => True) (fun q => sz ≤ q)) 0 0 (fun q => sz ≤ q) := by
  obtain ⟨f1, f2, f3, f4, f5, f6⟩ := sx_f hi hk
  refine Met.ofW (cc := bS_cha) (maxL := 2) (ret := some .char) (by decide) rfl ?_
  intro p e s m args below meth c s₁ B hml hv
  obtain ⟨rfl, hX⟩ := hv
  obtain ⟨hsz, hE, hZ, hq⟩ := id hX
  have hx := B.exec
  have hb := B.bytes
  have hr := B.returns
  have hts0 := atoms_spec (ws := Cond.code yS_cha bS_cha 2 (some .char) :: gwT) B.pre
  have hts : ∀ w ∈ gwT, w.before _ s = true := fun w hw => hts0 w (List.mem_cons_of_mem _ hw)
  have hown : s.vm.findClass "java/lang/String" = some m.cls := findClass_of_methodNamed B.named
  have hlocks := B.notSynchronized
  have hS : va_S (fun q : Nat => sz ≤ q) s.heap s.heap [] := va_S.rf
  have hl := lv_entry ([.ref (adK i), .int (Int32.ofNat k)]) (n := 2) (Nat.le_of_ble_eq_true rfl)
  rw [lg_entry_eq]
  generalize (lg_sl ([.ref (adK i), .int (Int32.ofNat k)]) ++ List.replicate (2 - (lg_sl ([.ref (adK i), .int (Int32.ofNat k)])).length) Slot.unset).toArray = ls at hl ⊢
  have hl : lv_has ls 2 [(0, .ref (adK i)), (1, .int (Int32.ofNat k))] := hl
  refine lv_aload_n hx hb dS_cha_0 rfl (lv_at hl 0 rfl) ?_
  refine va_calli (va_runV (C := "java/lang/String") (As := []) (rest := []) ⟨hx, hb, hml, hown, hts⟩ (sx_isl l adK adV sz i hi) ⟨⟨rfl, rfl, by decide, by decide, sx_ws wS_isl hts, List.mem_cons_self, hts _ wS_isl, hts _ wS_inS, ⟨by decide, by decide⟩, par_of (by decide +kernel), hts _ wS_misl⟩, hts _ wS_iisl, hts _ wS_sisl⟩ ⟨sxP_blind, vk_recv hE hi hS, fun U hU hW => ⟨rfl, sxP_at hX (Nat.le_refl _) hsz (fun _ _ _ => rfl) hU hW⟩⟩ rfl rfl hl.1 rfl (lv_room (Nat.le_of_ble_eq_true rfl)) dS_cha_1 ⟨Nat.le_of_ble_eq_true rfl, Nat.le_of_ble_eq_true rfl⟩) hS (fun q _ h => h) (fun q h => h) (fun r u t H1 locs ht hvm hw hB hz1 hk1 hS => ?_)
  have hw : r = 1 := hw
  subst hw
  refine lv_if_eq (tgt := 16) hx hb dS_cha_4 (by decide) (fun c => absurd c (by decide)) (fun _ => ?_)
  refine lv_aload_n hx hb dS_cha_7 rfl (lv_at hl 0 rfl) ?_
  refine vk_getf hx hb (hE.1 i hi).2.2.1 hS hown (hts _ wS_fval) (fun _ h9 => h9) dS_cha_8 ?_
  refine lv_iload_n hx hb dS_cha_11 rfl (lv_at hl 1 rfl) ?_
  have le1 : sz ≤ H1.size := by rw [← hsz]; exact hz1
  refine va_calli (va_runS (As := [.ref (adV i), .int (Int32.ofNat k)]) (rest := []) ⟨hx, hb, hml, hown, hts⟩ (sx_lch l adK adV H1.size i k hi hk) ⟨⟨rfl, rfl, by decide, by decide, sx_ws wS_lch hts, List.mem_cons_self, hts _ wS_lch, hts _ wS_inL, ⟨by decide, by decide⟩, par_of (n := 2) (by decide +kernel), hts _ wS_mlch⟩, hts _ wS_tlch⟩ ⟨sxP_blind, fun U hU hW => ⟨rfl, sxP_at hX le1 rfl hk1 hU hW⟩⟩ rfl rfl hl.1 rfl (lv_room (Nat.le_of_ble_eq_true rfl)) dS_cha_12 ⟨Nat.le_of_ble_eq_true rfl, Nat.le_of_ble_eq_true rfl⟩) hS (fun q _ h => Nat.le_trans le1 h) (fun q h => Nat.le_trans le1 h) (fun r u t H2 locs ht hvm hw hB hz2 hk2 hS => ?_)
  have hw : r = sxC i k := hw
  subst hw
  exact W.zret hx hb hr f6 (fun t ht hW => ⟨⟨_, (), rfl, rfl, trivial⟩, hS.F ht⟩) hS.2.2 dS_cha_15
