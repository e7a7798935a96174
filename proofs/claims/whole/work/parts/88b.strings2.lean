def sxP (adK adV : Nat → Nat) (sz : Nat) (U : State) : Prop := U.heap.size = sz ∧ vk_S 4 [1, 5, 3, 2] [[121], [97, 98, 120, 121, 110], [121, 100, 104], [109, 99]] adK adV (fun q => sz ≤ q) U U.heap ∧ va_Z "java/lang/String" "COMPACT_STRINGS" "Z" (.int 1) (fun q => sz ≤ q) U U.heap ∧ va_Zq "jdk/internal/util/Preconditions" "SIOOBE_FORMATTER" "Ljava/util/function/BiFunction;" (fun q => sz ≤ q) U U.heap
theorem sxP_blind {adK adV : Nat → Nat} {sz : Nat} {av : List Value} : FrameBlind (va_Pc av (sxP adK adV sz)) := by
  intro a U g mk h
  obtain ⟨h0, h1, h2, h3, h4⟩ := h
  exact ⟨h0, h1, vk_S.moved (u := U) (U := U.calling g mk a) (Vm.Alike.refl U.vm) h2, va_Z.moved (u := U) (U := U.calling g mk a) (Vm.Alike.refl U.vm) h3, va_Zq.moved (u := U) (U := U.calling g mk a) (Vm.Alike.refl U.vm) h4⟩
theorem sxP_at {adK adV : Nat → Nat} {sz : Nat} {s U : State} {H : Heap} (h : sxP adK adV sz s) (hH : H.size = sz) (hk : ∀ a : Nat, a < s.heap.size → ¬ sz ≤ a → H[a]? = s.heap[a]?) (hU : U.heap = H) (hW : s.WarmedH U.vm) : sxP adK adV sz U := by
  obtain ⟨h1, h2, h3, h4⟩ := h
  refine ⟨by rw [hU]; exact hH, ?_, ?_, ?_⟩
  · rw [hU]; exact (h2.moved hW.alike).kept hk
  · rw [hU]; exact (h3.moved hW.alike).kept hk
  · rw [hU]; exact (h4.moved hW.alike).kept hk
theorem sx_ws {s : State} {args : Array Value} {w0 : Cond} (hy : w0 ∈ gwT) (hts : ∀ w ∈ gwT, w.before args s = true) : ∀ w ∈ (w0 :: gwT), ∀ (a' : Array Value) (U : State), s.WarmedH U.vm → w.before a' U = true := fun w hw a' U hW => by
  have : w ∈ gwT := by
    rcases List.mem_cons.mp hw with rfl | h
    · exact hy
    · exact h
  exact word_at hW (good_of_word (gw_good this)) (hts w this)
def rS (f n : Nat) : Room := { frames := f, cells := 0, slots := 0, locals := n }
set_option maxHeartbeats 4000000 in
set_option maxRecDepth 100000 in
theorem sx_cod (l : Launch) (adK adV : Nat → Nat) (sz i : Nat) (hi : i < 4) : Met l yS_cod (Cond.code yS_cod bS_cod 1 (some .byte) :: gwT) (rS 0 0) (va_Pc [.ref (adK i)] (sxP adK adV sz)) (va_Qi (fun r (_ : Unit) => r = 0) (fun _ _ => True) (fun q => sz ≤ q)) 0 0 (fun q => sz ≤ q) := by
  refine Met.ofW (cc := bS_cod) (maxL := 1) (ret := some .byte) (by decide) rfl ?_
  intro p e s m args below meth c s₁ B hml hv
  obtain ⟨rfl, hsz, hE, hZ, hq⟩ := hv
  have hx := B.exec
  have hb := B.bytes
  have hr := B.returns
  have hts0 := atoms_spec (ws := Cond.code yS_cod bS_cod 1 (some .byte) :: gwT) B.pre
  have hts : ∀ w ∈ gwT, w.before _ s = true := fun w hw => hts0 w (List.mem_cons_of_mem _ hw)
  have hown : s.vm.findClass "java/lang/String" = some m.cls := findClass_of_methodNamed B.named
  have hlocks := B.notSynchronized
  have hS : va_S (fun q : Nat => sz ≤ q) s.heap s.heap [] := va_S.rf
  have hl := lv_entry ([.ref (adK i)]) (n := 1) (Nat.le_of_ble_eq_true rfl)
  rw [lg_entry_eq]
  generalize (lg_sl ([.ref (adK i)]) ++ List.replicate (1 - (lg_sl ([.ref (adK i)])).length) Slot.unset).toArray = ls at hl ⊢
  have hl : lv_has ls 1 [(0, .ref (adK i))] := hl
  refine va_gets hx hb hZ hS hown (hts _ wS_fcs) (fun _ h9 => h9) dS_cod_0 ?_
  refine lv_if_eq (tgt := 13) hx hb dS_cod_3 (by decide) (fun c => absurd c (by decide)) (fun _ => ?_)
  refine lv_aload_n hx hb dS_cod_6 rfl (lv_at hl 0 rfl) ?_
  refine vk_getf hx hb (hE.1 i hi).2.1 hS hown (hts _ wS_fcod) (fun _ h9 => h9) dS_cod_7 ?_
  refine lv_goto (tgt := 14) hx hb dS_cod_10 (by decide) ?_
  exact W.zret hx hb hr rfl (fun t ht hW => ⟨⟨0, (), rfl, rfl, trivial⟩, hS.F ht⟩) hS.2.2 dS_cod_14
set_option maxHeartbeats 4000000 in
set_option maxRecDepth 100000 in
theorem sx_isl (l : Launch) (adK adV : Nat → Nat) (sz i : Nat) (hi : i < 4) : Met l yS_isl (Cond.code yS_isl bS_isl 1 (some .boolean) :: gwT) (rS 0 0) (va_Pc [.ref (adK i)] (sxP adK adV sz)) (va_Qi (fun r (_ : Unit) => r = 1) (fun _ _ => True) (fun q => sz ≤ q)) 0 0 (fun q => sz ≤ q) := by
  refine Met.ofW (cc := bS_isl) (maxL := 1) (ret := some .boolean) (by decide) rfl ?_
  intro p e s m args below meth c s₁ B hml hv
  obtain ⟨rfl, hsz, hE, hZ, hq⟩ := hv
  have hx := B.exec
  have hb := B.bytes
  have hr := B.returns
  have hts0 := atoms_spec (ws := Cond.code yS_isl bS_isl 1 (some .boolean) :: gwT) B.pre
  have hts : ∀ w ∈ gwT, w.before _ s = true := fun w hw => hts0 w (List.mem_cons_of_mem _ hw)
  have hown : s.vm.findClass "java/lang/String" = some m.cls := findClass_of_methodNamed B.named
  have hlocks := B.notSynchronized
  have hS : va_S (fun q : Nat => sz ≤ q) s.heap s.heap [] := va_S.rf
  have hl := lv_entry ([.ref (adK i)]) (n := 1) (Nat.le_of_ble_eq_true rfl)
  rw [lg_entry_eq]
  generalize (lg_sl ([.ref (adK i)]) ++ List.replicate (1 - (lg_sl ([.ref (adK i)])).length) Slot.unset).toArray = ls at hl ⊢
  have hl : lv_has ls 1 [(0, .ref (adK i))] := hl
  refine va_gets hx hb hZ hS hown (hts _ wS_fcs) (fun _ h9 => h9) dS_isl_0 ?_
  refine lv_if_eq (tgt := 17) hx hb dS_isl_3 (by decide) (fun c => absurd c (by decide)) (fun _ => ?_)
  refine lv_aload_n hx hb dS_isl_6 rfl (lv_at hl 0 rfl) ?_
  refine vk_getf hx hb (hE.1 i hi).2.1 hS hown (hts _ wS_fcod) (fun _ h9 => h9) dS_isl_7 ?_
  refine lv_if_ne (tgt := 17) hx hb dS_isl_10 (by decide) (fun c => absurd rfl c) (fun _ => ?_)
  refine lv_iconst (v := 1) hx hb dS_isl_13 (by decide) ?_
  refine lv_goto (tgt := 18) hx hb dS_isl_14 (by decide) ?_
  exact W.zret hx hb hr rfl (fun t ht hW => ⟨⟨1, (), rfl, rfl, trivial⟩, hS.F ht⟩) hS.2.2 dS_isl_18
set_option maxHeartbeats 4000000 in
set_option maxRecDepth 100000 in
theorem sx_pre (l : Launch) (sz : Nat) (k n : Int32) (v : Value) (hv : v = .null ∨ ∃ t, v = .ref t) (h0 : ¬ k < 0) (h1 : k < n) : Met l yS_pre (Cond.code yS_pre bS_pre 3 (some .int) :: gwT) (rS 0 0) (va_Pc [.int k, .int n, v] (fun U => U.heap.size = sz)) (va_Qi (fun r (_ : Unit) => r = k) (fun _ _ => True) (fun q => sz ≤ q)) 0 0 (fun q => sz ≤ q) := by
  refine Met.ofW (cc := bS_pre) (maxL := 3) (ret := some .int) (by decide) rfl ?_
  intro p e s m args below meth c s₁ B hml hv1
  obtain ⟨rfl, hsz⟩ := hv1
  have hx := B.exec
  have hb := B.bytes
  have hr := B.returns
  have hlocks := B.notSynchronized
  have hS : va_S (fun q : Nat => sz ≤ q) s.heap s.heap [] := va_S.rf
  have hl : ∃ ls : Array Slot, entryFrame m ([.int k, .int n, v] : List Value).toArray 3 = F0 m 0 ls [] ∧ lv_has ls 3 [(0, .int k), (1, .int n)] := by
    rcases hv with rfl | ⟨t, rfl⟩
    · have hl := lv_entry ([.int k, .int n, .null]) (n := 3) (Nat.le_of_ble_eq_true rfl)
      exact ⟨_, lg_entry_eq, lv_sub hl [0, 1] rfl⟩
    · have hl := lv_entry ([.int k, .int n, .ref t]) (n := 3) (Nat.le_of_ble_eq_true rfl)
      exact ⟨_, lg_entry_eq, lv_sub hl [0, 1] rfl⟩
  obtain ⟨ls, he, hl⟩ := hl
  rw [he]
  refine lv_iload_n hx hb dS_pre_0 rfl (lv_at hl 0 rfl) ?_
  refine lv_if_lt (tgt := 9) hx hb dS_pre_1 (by decide) (fun c => absurd c h0) (fun _ => ?_)
  refine lv_iload_n hx hb dS_pre_4 rfl (lv_at hl 0 rfl) ?_
  refine lv_iload_n hx hb dS_pre_5 rfl (lv_at hl 1 rfl) ?_
  refine lv_icmp_lt (tgt := 16) hx hb dS_pre_6 (by decide) (fun _ => ?_) (fun c => absurd h1 c)
  refine lv_iload_n hx hb dS_pre_16 rfl (lv_at hl 0 rfl) ?_
  exact W.iret hx hb hr (fun t ht hW => ⟨⟨k, (), rfl, rfl, trivial⟩, hS.F ht⟩) hS.2.2 dS_pre_17
theorem sz_blind {sz : Nat} {av : List Value} : FrameBlind (va_Pc av (fun U => U.heap.size = sz)) := fun a U g mk h => h
set_option maxHeartbeats 4000000 in
set_option maxRecDepth 100000 in
theorem sx_chk (l : Launch) (adK adV : Nat → Nat) (sz : Nat) (k n : Int32) (h0 : ¬ k < 0) (h1 : k < n) : Met l yS_chk (Cond.code yS_chk bS_chk 2 none :: gwT) (rS 1 22) (va_Pc [.int k, .int n] (sxP adK adV sz)) (va_Qv (fun (_ : Unit) => True) (fun _ _ => True) (fun q => sz ≤ q)) 0 0 (fun q => sz ≤ q) := by
  refine Met.ofW (cc := bS_chk) (maxL := 2) (ret := none) (by decide) rfl ?_
  intro p e s m args below meth c s₁ B hml hv
  obtain ⟨rfl, hsz, hE, hZ, hq⟩ := hv
  have hx := B.exec
  have hb := B.bytes
  have hr := B.returns
  have hts0 := atoms_spec (ws := Cond.code yS_chk bS_chk 2 none :: gwT) B.pre
  have hts : ∀ w ∈ gwT, w.before _ s = true := fun w hw => hts0 w (List.mem_cons_of_mem _ hw)
  have hown : s.vm.findClass "java/lang/String" = some m.cls := findClass_of_methodNamed B.named
  have hlocks := B.notSynchronized
  have hS : va_S (fun q : Nat => sz ≤ q) s.heap s.heap [] := va_S.rf
  have hl := lv_entry ([.int k, .int n]) (n := 2) (Nat.le_of_ble_eq_true rfl)
  rw [lg_entry_eq]
  generalize (lg_sl ([.int k, .int n]) ++ List.replicate (2 - (lg_sl ([.int k, .int n])).length) Slot.unset).toArray = ls at hl ⊢
  have hl : lv_has ls 2 [(0, .int k), (1, .int n)] := hl
  obtain ⟨v, hv, hZv⟩ : ∃ v, (v = .null ∨ ∃ t, v = .ref t) ∧ va_Z "jdk/internal/util/Preconditions" "SIOOBE_FORMATTER" "Ljava/util/function/BiFunction;" v (fun q : Nat => sz ≤ q) s s.heap := by
    rcases hq with h | ⟨t, h⟩
    · exact ⟨_, Or.inl rfl, h⟩
    · exact ⟨_, Or.inr ⟨t, rfl⟩, h⟩
  refine lv_iload_n hx hb dS_chk_0 rfl (lv_at hl 0 rfl) ?_
  refine lv_iload_n hx hb dS_chk_1 rfl (lv_at hl 1 rfl) ?_
  refine va_gets hx hb hZv hS hown (hts _ wS_fsi) (fun _ h9 => h9) dS_chk_2 ?_
  refine va_calli (va_runS (As := [.int k, .int n, v]) (rest := []) ⟨hx, hb, hml, hown, hts⟩ (sx_pre l sz k n v hv h0 h1) ⟨⟨rfl, rfl, Nat.le_refl 1, Nat.le_refl 22, sx_ws wS_pre hts, List.mem_cons_self, hts _ wS_pre, hts _ wS_inP, ⟨by decide, by decide⟩, by decide +kernel, hts _ wS_mpre⟩, hts _ wS_tpre⟩ ⟨sz_blind, fun U hU hW => ⟨rfl, by rw [hU]; exact hsz⟩⟩ rfl rfl hl.1 rfl (by decide) dS_chk_5 ⟨Nat.le_refl 0, Nat.le_refl 0⟩) hS (fun q _ h => h) (fun q h => h) (fun r u t H1 locs ht hvm hw hB hz1 hk1 hS => ?_)
  refine lv_pop hx hb dS_chk_8 rfl ?_
  exact W.vret hx hb hr (fun t ht hW => ⟨⟨(), rfl, trivial, trivial⟩, hS.F ht⟩) hS.2.2 dS_chk_9
