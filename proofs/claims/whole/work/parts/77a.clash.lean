-- when two clash
section
variable {ρ ρ' : Int → Int}
abbrev Cl : Type := Option (List Int) × List Int
theorem rnS_cg (h : ∀ k, k ≠ 3 → ρ k = ρ' k) : ∀ (w : List Int) (st : List Int), 3 ∉ w → rnS ρ w st = rnS ρ' w st := by
  intro w
  induction w with
  | nil => intro st _; rfl
  | cons x w ih =>
    intro st hx
    rw [List.mem_cons, not_or] at hx
    show rnS ρ w (stS ρ x st) = rnS ρ' w (stS ρ' x st)
    rw [show stS ρ x st = stS ρ' x st from by unfold stS; rw [h x (fun q => hx.1 q.symm)]]
    exact ih _ hx.2
theorem vlS_cg (h : ∀ k, k ≠ 3 → ρ k = ρ' k) {w : List Int} (hw : 3 ∉ w) : vlS ρ w = vlS ρ' w := by unfold vlS; rw [rnS_cg h w [] hw]
theorem clV_cg (h : ∀ k, k ≠ 3 → ρ k = ρ' k) {L : Int} {c : Cl} (hw : 3 ∉ cdC L c) : clV ρ c = clV ρ' c := by
  obtain ⟨o, s⟩ := c
  cases o with
  | none =>
    simp only [cdC, List.mem_append, not_or] at hw
    simp only [clV]; rw [vlS_cg h hw.1]
  | some w =>
    simp only [cdC, List.mem_append, not_or] at hw
    simp only [clV]; rw [vlS_cg h hw.1, vlS_cg h hw.2.1.2]
theorem lwV_cg (h : ∀ k, k ≠ 3 → ρ k = ρ' k) : ∀ (cs : List Cl) (L : Int), 3 ∉ cdL L cs → lwV ρ cs = lwV ρ' cs := by
  intro cs
  induction cs with
  | nil => intro _ _; rfl
  | cons c cs ih =>
    intro L hw
    rw [cdL, List.mem_append, not_or] at hw
    simp only [lwV]
    rw [clV_cg h hw.1, ih _ hw.2]
/-- whether two births clash on a day -/
def clB (L : Option (List Cl)) (b1 b2 d n : Int) : Bool := match L with
  | none => decide ((d - b1) / 360 = (d - b2) / 360)
  | some cs => decide (0 < (lwV (le5 ((d - min b1 b2) / 360) ((d - max b1 b2) / 360) (if b1 - b2 < 0 then -(b1 - b2) else b1 - b2) (d % 360 + 1) n) cs).getD 0)
theorem clB_comm (L : Option (List Cl)) (b1 b2 d n : Int) : clB L b1 b2 d n = clB L b2 b1 d n := by
  cases L with
  | none => simp only [clB]; exact decide_eq_decide.mpr ⟨Eq.symm, Eq.symm⟩
  | some cs => simp only [clB]; rw [Int.min_comm b2 b1, Int.max_comm b2 b1, show (if b2 - b1 < 0 then -(b2 - b1) else b2 - b1) = (if b1 - b2 < 0 then -(b1 - b2) else b1 - b2) from by split <;> split <;> omega]
/-- for how many days it stays so -/
def stD (L : Option (List Cl)) (b1 b2 d : Int) : Int := match L with
  | none => min (360 - (d - b1) % 360) (360 - (d - b2) % 360)
  | some cs => if 3 ∈ cdL 0 cs then 1 else min (360 - (d - b1) % 360) (360 - (d - b2) % 360)
theorem stD_r (L : Option (List Cl)) (b1 b2 d : Int) : 1 ≤ stD L b1 b2 d ∧ stD L b1 b2 d ≤ 360 := by
  unfold stD
  cases L with
  | none => simp only; omega
  | some cs => simp only; split <;> omega
theorem clB_steady (L : Option (List Cl)) {b1 b2 d n j : Int} (h0 : 0 ≤ j) (h1 : j < stD L b1 b2 d) : clB L b1 b2 (d + j) n = clB L b1 b2 d n := by
  unfold stD at h1
  cases L with
  | none =>
    simp only at h1
    simp only [clB]
    rw [show (d + j - b1) / 360 = (d - b1) / 360 by omega, show (d + j - b2) / 360 = (d - b2) / 360 by omega]
  | some cs =>
    simp only at h1
    by_cases c : 3 ∈ cdL 0 cs
    · rw [if_pos c] at h1
      rw [show d + j = d by omega]
    · rw [if_neg c] at h1
      simp only [clB]
      have e1 : (d + j - min b1 b2) / 360 = (d - min b1 b2) / 360 := by
        rcases Int.le_total b1 b2 with q | q
        · rw [Int.min_eq_left q]; omega
        · rw [Int.min_eq_right q]; omega
      have e2 : (d + j - max b1 b2) / 360 = (d - max b1 b2) / 360 := by
        rcases Int.le_total b1 b2 with q | q
        · rw [Int.max_eq_right q]; omega
        · rw [Int.max_eq_left q]; omega
      rw [e1, e2]
      rw [lwV_cg (ρ' := le5 ((d - min b1 b2) / 360) ((d - max b1 b2) / 360) (if b1 - b2 < 0 then -(b1 - b2) else b1 - b2) (d % 360 + 1) n) (fun k hk => ?_) cs 0 c]
      unfold le5
      by_cases k0 : k = 0
      · rw [if_pos k0, if_pos k0]
      · by_cases k1 : k = 1
        · rw [if_neg k0, if_pos k1, if_neg k0, if_pos k1]
        · by_cases k2 : k = 2
          · rw [if_neg k0, if_neg k1, if_pos k2, if_neg k0, if_neg k1, if_pos k2]
          · rw [if_neg k0, if_neg k1, if_neg k2, if_neg hk, if_neg k0, if_neg k1, if_neg k2, if_neg hk]
/-- a birth, a day that may be asked for -/
def okB (b : Int) : Prop := -40000 ≤ b ∧ b ≤ 20000
def okD (d : Int) : Prop := 0 ≤ d ∧ d ≤ 20000
theorem le5_VI {b1 b2 d n : Int} (h1 : okB b1) (h2 : okB b2) (hd : okD d) (hn : 0 ≤ n ∧ n ≤ 6) (k : Int) : VI (le5 ((d - min b1 b2) / 360) ((d - max b1 b2) / 360) (if b1 - b2 < 0 then -(b1 - b2) else b1 - b2) (d % 360 + 1) n k) := by
  unfold okB at h1 h2
  unfold okD at hd
  unfold le5 VI
  have a1 : -40000 ≤ min b1 b2 ∧ min b1 b2 ≤ 20000 := by omega
  have a2 : -40000 ≤ max b1 b2 ∧ max b1 b2 ≤ 20000 := by omega
  generalize min b1 b2 = m1 at *
  generalize max b1 b2 = m2 at *
  repeat' split
  all_goals omega
/-- the law that holds -/
def lwO (Ls : List (List Cl)) (k : Int) : Option (List Cl) := if k < 0 then none else some (Ls.getD k.toNat [])
end
