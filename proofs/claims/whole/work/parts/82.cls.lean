/-- what is wanted of a class -/
def Cls (ci : Nat) : Prop := vwCl[ci]? = some (axR ci, axT ci, axN ci) ∧ (∀ w ∈ u_ws (axR ci) (axT ci) (axN ci), w ∈ gwT) ∧ (∀ a, a < axN ci → ∀ b, b < axN ci → a ≠ b → (axT ci a).2.1 ≠ (axT ci b).2.1) ∧ (∀ k, k < axN ci → parseFieldDescriptor (axT ci k).2.2.1 = some (axTy ci k)) ∧ (axD ci).length = axN ci ∧ (Cond.instantiable (axR ci) (axN ci) ∈ gwT) ∧ (Cond.initialized (axR ci) ∈ gwT) ∧ (∀ j, j < axN ci → (isJ (axTy ci j) = true ∨ isP (axTy ci j) = true) → (axD ci)[j]? = some none) ∧ (∀ j, j < axN ci → ¬ (isJ (axTy ci j) = true ∨ isP (axTy ci j) = true) → (axD ci)[j]? = some (some none) ∧ isRf (axTy ci j) = true)
theorem ws_in {ws : List Cond} (h : ws.all (fun w => decide (w ∈ gwT)) = true) : ∀ w ∈ ws, w ∈ gwT := fun w hw => by simpa using List.all_eq_true.mp h w hw
set_option maxRecDepth 100000 in
theorem kls_0 : Cls 0 := ⟨rfl, ws_in (by decide +kernel), nmX0, tyX0_ok, rfl, gw_2 (i := 106) rfl rfl, gw_1 (i := 12) rfl rfl, by decide +kernel, by decide +kernel⟩
set_option maxRecDepth 100000 in
theorem kls_1 : Cls 1 := ⟨rfl, ws_in (by decide +kernel), nmX1, tyX1_ok, rfl, gw_2 (i := 38) rfl rfl, gw_1 (i := 10) rfl rfl, by decide +kernel, by decide +kernel⟩
set_option maxRecDepth 100000 in
theorem kls_2 : Cls 2 := ⟨rfl, ws_in (by decide +kernel), nmX2, tyX2_ok, rfl, gw_1 (i := 90) rfl rfl, gw_1 (i := 4) rfl rfl, by decide +kernel, by decide +kernel⟩
set_option maxRecDepth 100000 in
theorem kls_3 : Cls 3 := ⟨rfl, ws_in (by decide +kernel), nmX3, tyX3_ok, rfl, gw_1 (i := 130) rfl rfl, gw_1 (i := 7) rfl rfl, by decide +kernel, by decide +kernel⟩
set_option maxRecDepth 100000 in
theorem kls_4 : Cls 4 := ⟨rfl, ws_in (by decide +kernel), nmX4, tyX4_ok, rfl, gw_2 (i := 74) rfl rfl, gw_1 (i := 11) rfl rfl, by decide +kernel, by decide +kernel⟩
set_option maxRecDepth 100000 in
theorem kls_5 : Cls 5 := ⟨rfl, ws_in (by decide +kernel), nmX5, tyX5_ok, rfl, gw_2 (i := 16) rfl rfl, gw_1 (i := 9) rfl rfl, by decide +kernel, by decide +kernel⟩
set_option maxRecDepth 100000 in
theorem kls_6 : Cls 6 := ⟨rfl, ws_in (by decide +kernel), nmX6, tyX6_ok, rfl, gw_1 (i := 124) rfl rfl, gw_1 (i := 6) rfl rfl, by decide +kernel, by decide +kernel⟩
set_option maxRecDepth 100000 in
theorem kls_7 : Cls 7 := ⟨rfl, ws_in (by decide +kernel), nmX7, tyX7_ok, rfl, gw_1 (i := 56) rfl rfl, gw_1 (i := 3) rfl rfl, by decide +kernel, by decide +kernel⟩
set_option maxRecDepth 100000 in
theorem kls_8 : Cls 8 := ⟨rfl, ws_in (by decide +kernel), nmX8, tyX8_ok, rfl, gw_1 (i := 96) rfl rfl, gw_1 (i := 5) rfl rfl, by decide +kernel, by decide +kernel⟩
set_option maxRecDepth 100000 in
theorem kls_9 : Cls 9 := ⟨rfl, ws_in (by decide +kernel), nmX9, tyX9_ok, rfl, gw_1 (i := 152) rfl rfl, gw_1 (i := 8) rfl rfl, by decide +kernel, by decide +kernel⟩
set_option maxRecDepth 100000 in
theorem kls_10 : Cls 10 := ⟨rfl, ws_in (by decide +kernel), nmX10, tyX10_ok, rfl, gw_1 (i := 34) rfl rfl, gw_1 (i := 2) rfl rfl, by decide +kernel, by decide +kernel⟩
set_option maxRecDepth 100000 in
theorem kls_11 : Cls 11 := ⟨rfl, ws_in (by decide +kernel), nmX11, tyX11_ok, rfl, gw_1 (i := 26) rfl rfl, gw_1 (i := 1) rfl rfl, by decide +kernel, by decide +kernel⟩
set_option maxRecDepth 100000 in
theorem kls_12 : Cls 12 := ⟨rfl, ws_in (by decide +kernel), nmX12, tyX12_ok, rfl, gw_5 (i := 220) rfl rfl, gw_1 (i := 13) rfl rfl, by decide +kernel, by decide +kernel⟩
theorem klsT {ci : Nat} (h : ci < 13) : Cls ci := by
  match ci, h with
  | 0, _ => exact kls_0
  | 1, _ => exact kls_1
  | 2, _ => exact kls_2
  | 3, _ => exact kls_3
  | 4, _ => exact kls_4
  | 5, _ => exact kls_5
  | 6, _ => exact kls_6
  | 7, _ => exact kls_7
  | 8, _ => exact kls_8
  | 9, _ => exact kls_9
  | 10, _ => exact kls_10
  | 11, _ => exact kls_11
  | 12, _ => exact kls_12
  | n + 13, h => exact absurd h (by omega)
set_option maxRecDepth 100000 in
theorem gw_arI : Cond.arrayClass .int ∈ gwT := gw_1 (i := 54) rfl rfl
set_option maxRecDepth 100000 in
theorem gw_arB : Cond.arrayClass .byte ∈ gwT := gw_5 (i := 216) rfl rfl
set_option maxRecDepth 100000 in
theorem gw_arZ : Cond.arrayClass .boolean ∈ gwT := gw_2 (i := 104) rfl rfl
set_option maxRecDepth 100000 in
theorem gw_objI : Cond.instanceMethod objectInit ∈ gwT := gw_1 (i := 31) rfl rfl
set_option maxRecDepth 100000 in
theorem gw_acN : Cond.native arraycopyName ∈ gwT := gw_3 (i := 98) rfl rfl
set_option maxRecDepth 100000 in
theorem gw_acS : Cond.static arraycopyName ∈ gwT := gw_3 (i := 97) rfl rfl
set_option maxRecDepth 100000 in
theorem gw_acI : Cond.initialized "java/lang/System" ∈ gwT := gw_1 (i := 19) rfl rfl
set_option maxRecDepth 100000 in
theorem gw_objC : Cond.code objectInit ⟨#[0xb1]⟩ 1 none ∈ gwT := gw_1 (i := 32) rfl rfl
