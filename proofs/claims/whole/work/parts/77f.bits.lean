-- sets of people, sets of pairs: numbers as bits
section
theorem ofI {n : Nat} (h : n < 2147483648) : (Int32.ofInt (n : Int)).toBitVec.toNat = n := by
  show (BitVec.ofInt 32 (n : Int)).toNat = n
  rw [BitVec.toNat_ofInt]
  omega
theorem toI {x : Int32} (h : x.toBitVec.toNat < 2147483648) : x.toInt = x.toBitVec.toNat := by
  show x.toBitVec.toInt = _
  rw [BitVec.toInt_eq_toNat_of_lt (by omega)]
theorem zor_n {a b : Nat} (ha : a < 2147483648) (hb : b < 2147483648) : zor a b = ((a ||| b : Nat) : Int) := by
  unfold zor
  have h := Nat.or_lt_two_pow (n := 31) (x := a) (y := b) ha hb
  have e : (Int32.ofInt (a : Int) ||| Int32.ofInt (b : Int)).toBitVec.toNat = a ||| b := by
    rw [Int32.toBitVec_or, BitVec.toNat_or, ofI ha, ofI hb]
  rw [toI (by rw [e]; exact h), e]
theorem zand_n {a b : Nat} (ha : a < 2147483648) (hb : b < 2147483648) : zand a b = ((a &&& b : Nat) : Int) := by
  unfold zand
  have h := Nat.and_lt_two_pow (n := 31) a (y := b) hb
  have e : (Int32.ofInt (a : Int) &&& Int32.ofInt (b : Int)).toBitVec.toNat = a &&& b := by
    rw [Int32.toBitVec_and, BitVec.toNat_and, ofI ha, ofI hb]
  rw [toI (by rw [e]; exact h), e]
theorem zxor_n {a b : Nat} (ha : a < 2147483648) (hb : b < 2147483648) : zxor a b = ((a ^^^ b : Nat) : Int) := by
  unfold zxor
  have h := Nat.xor_lt_two_pow (n := 31) (x := a) (y := b) ha hb
  have e : (Int32.ofInt (a : Int) ^^^ Int32.ofInt (b : Int)).toBitVec.toNat = a ^^^ b := by
    rw [Int32.toBitVec_xor, BitVec.toNat_xor, ofI ha, ofI hb]
  rw [toI (by rw [e]; exact h), e]
theorem zshl_1 : ∀ k : Nat, k < 31 → zshl 1 k = ((2 ^ k : Nat) : Int) := by decide +kernel
theorem zshr_n {a k : Nat} (ha : a < 2147483648) (hk : k < 32) : zshr a k = ((a / 2 ^ k : Nat) : Int) := by
  rw [zshr_v ⟨by omega, by omega⟩ k hk, Int.natCast_ediv]
  norm_cast
/-- the k-th bit -/
def tb (s : Int) (k : Int) : Bool := s.toNat.testBit k.toNat
theorem tb_n (s k : Nat) : tb s k = s.testBit k := rfl
/-- how many bits -/
def pcn : Nat → Nat → Nat
  | 0, _ => 0
  | n + 1, s => s % 2 + pcn n (s / 2)
def bcN (s : Nat) : Nat :=
  let a := s - ((s >>> 1) &&& 1431655765)
  let b := (a &&& 858993459) + ((a >>> 2) &&& 858993459)
  let c := (b + (b >>> 4)) &&& 252645135
  let e := c + (c >>> 8)
  let f := e + (e >>> 16)
  f &&& 63
theorem zushr_n {a : Nat} (k : Nat) (ha : a < 2147483648) (hk : k < 32) : zushr a k = ((a >>> k : Nat) : Int) := by
  have : a / 2 ^ k ≤ a := Nat.div_le_self _ _
  rw [zushr_v ⟨by omega, by omega⟩ k hk, show ((a : Int) % 4294967296) = a by omega, Nat.shiftRight_eq_div_pow, show ((a : Int) / 2 ^ k) = ((a / 2 ^ k : Nat) : Int) from by rw [Int.natCast_ediv]; norm_cast]
  generalize a / 2 ^ k = q at *
  rw [w32_of ⟨by omega, by omega⟩]
theorem w32_n {a : Nat} (h : a < 2147483648) : w32 (a : Int) = a := w32_of ⟨by omega, by omega⟩
theorem bc_N {s : Nat} (h : s < 32768) : bc (s : Int) = ((bcN s : Nat) : Int) := by
  have sh : ∀ (x k : Nat), x >>> k ≤ x := fun x k => by rw [Nat.shiftRight_eq_div_pow]; exact Nat.div_le_self _ _
  unfold bc bcN
  simp only
  have h1 := sh s 1
  have h2 : (s >>> 1) &&& 1431655765 ≤ s >>> 1 := Nat.and_le_left
  rw [show (1 : Int) = ((1 : Nat) : Int) from rfl, zushr_n 1 (by omega) (by omega), show (1431655765 : Int) = ((1431655765 : Nat) : Int) from rfl, zand_n (by omega) (by omega)]
  rw [show (s : Int) - (((s >>> 1) &&& 1431655765 : Nat) : Int) = ((s - ((s >>> 1) &&& 1431655765) : Nat) : Int) by omega]
  have h3 : s - ((s >>> 1) &&& 1431655765) ≤ s := Nat.sub_le _ _
  generalize s - ((s >>> 1) &&& 1431655765) = a at *
  rw [w32_n (a := a) (by omega)]
  have h4 := sh a 2
  have h5 : (a >>> 2) &&& 858993459 ≤ a >>> 2 := Nat.and_le_left
  have h6 : a &&& 858993459 ≤ a := Nat.and_le_left
  rw [show (858993459 : Int) = ((858993459 : Nat) : Int) from rfl, zand_n (a := a) (by omega) (by omega), show (2 : Int) = ((2 : Nat) : Int) from rfl, zushr_n (a := a) 2 (by omega) (by omega), zand_n (a := a >>> 2) (by omega) (by omega)]
  rw [show (((a &&& 858993459 : Nat) : Int)) + ((((a >>> 2) &&& 858993459 : Nat)) : Int) = (((a &&& 858993459) + ((a >>> 2) &&& 858993459) : Nat) : Int) by omega]
  have h7 : (a &&& 858993459) + ((a >>> 2) &&& 858993459) ≤ 65536 := by omega
  generalize (a &&& 858993459) + ((a >>> 2) &&& 858993459) = b at *
  rw [w32_n (a := b) (by omega)]
  have h8 := sh b 4
  rw [show (4 : Int) = ((4 : Nat) : Int) from rfl, zushr_n (a := b) 4 (by omega) (by omega), show ((b : Int)) + ((b >>> 4 : Nat) : Int) = ((b + (b >>> 4) : Nat) : Int) by omega, w32_n (a := b + (b >>> 4)) (by omega), show (252645135 : Int) = ((252645135 : Nat) : Int) from rfl, zand_n (a := b + (b >>> 4)) (by omega) (by omega)]
  have h9 : (b + (b >>> 4)) &&& 252645135 ≤ b + (b >>> 4) := Nat.and_le_left
  generalize (b + (b >>> 4)) &&& 252645135 = c at *
  have h10 := sh c 8
  rw [show (8 : Int) = ((8 : Nat) : Int) from rfl, zushr_n (a := c) 8 (by omega) (by omega), show ((c : Int)) + ((c >>> 8 : Nat) : Int) = ((c + (c >>> 8) : Nat) : Int) by omega, w32_n (a := c + (c >>> 8)) (by omega)]
  have h11 : c + (c >>> 8) ≤ 1000000 := by omega
  generalize c + (c >>> 8) = e at *
  have h12 := sh e 16
  rw [show (16 : Int) = ((16 : Nat) : Int) from rfl, zushr_n (a := e) 16 (by omega) (by omega), show ((e : Int)) + ((e >>> 16 : Nat) : Int) = ((e + (e >>> 16) : Nat) : Int) by omega, w32_n (a := e + (e >>> 16)) (by omega), show (63 : Int) = ((63 : Nat) : Int) from rfl, zand_n (a := e + (e >>> 16)) (by omega) (by omega)]
theorem bc_15' : ∀ a : Fin 128, ∀ b : Fin 256, bcN (256 * a.val + b.val) = pcn 15 (256 * a.val + b.val) := by decide +kernel
theorem bc_15 {s : Nat} (h : s < 32768) : bc (s : Int) = ((pcn 15 s : Nat) : Int) := by
  have := bc_15' ⟨s / 256, by omega⟩ ⟨s % 256, by omega⟩
  simp only at this
  rw [show 256 * (s / 256) + s % 256 = s by omega] at this
  rw [bc_N h, this]
end
