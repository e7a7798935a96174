section
variable {b b' : Int → Int} {n : Int}
theorem at_cg (h : ∀ i, i < n → b i = b' i) (i : Int) : at_ b n i = at_ b' n i := by
  unfold at_
  by_cases c : i < n
  · rw [if_pos c, if_pos c, h i c]
  · rw [if_neg c, if_neg c]
theorem skp_cg (h : ∀ i, i < n → b i = b' i) : ∀ (f : Nat) (i : Int), skp b n f i = skp b' n f i := by
  intro f
  induction f with
  | zero => intro i; rfl
  | succ f ih =>
    intro i
    simp only [skp]
    by_cases c : i < n
    · rw [h i c, ih]
    · simp only [c, false_and, if_false]
theorem sk_cg (h : ∀ i, i < n → b i = b' i) (i : Int) : sk b n i = sk b' n i := skp_cg h _ i
theorem rdN_cg (h : ∀ i, i < n → b i = b' i) : ∀ (f : Nat) (i v : Int), rdN b n f i v = rdN b' n f i v := by
  intro f
  induction f with
  | zero => intro i v; rfl
  | succ f ih => intro i v; simp only [rdN, at_cg h, ih]
theorem itS_cg (h : ∀ i, i < n → b i = b' i) (p : Bool) : ∀ (f : Nat) (i : Int) (m : Nat) (v : Int → Int), itS b n p f i m v = itS b' n p f i m v := by
  intro f
  induction f with
  | zero => intro i m v; simp only [itS, sk_cg h]
  | succ f ih => intro i m v; simp only [itS, sk_cg h, at_cg h, rdN_cg h, ih]
theorem clS_cg (h : ∀ i, i < n → b i = b' i) (i np nh : Int) (D : Sto) : clS b n i np nh D = clS b' n i np nh D := by
  simp only [clS, sk_cg h, at_cg h, itS_cg h]
theorem paS_cg (h : ∀ i, i < n → b i = b' i) : ∀ (f : Nat) (i np nh : Int) (D : Sto), paS b n f i np nh D = paS b' n f i np nh D := by
  intro f
  induction f with
  | zero => intro i np nh D; simp only [paS, sk_cg h]
  | succ f ih => intro i np nh D; simp only [paS, clS_cg h, at_cg h, ih]
theorem paC_cg (h : ∀ i, i < n → b i = b' i) (c i : Int) : paC b n c i = paC b' n c i := by simp only [paC, sk_cg h, at_cg h]
theorem atS_cg (h : ∀ i, i < n → b i = b' i) (E : Option Ps) : atS b n E = atS b' n E := by
  funext i; simp only [atS, sk_cg h, at_cg h, paC_cg h, rdN_cg h]
theorem moS_cg (h : ∀ i, i < n → b i = b' i) (A : Ps) (op : Int → Int) : ∀ (f : Nat) (w : List Int) (i : Int), moS b n A op f w i = moS b' n A op f w i := by
  intro f
  induction f with
  | zero => intro w i; simp only [moS, sk_cg h]
  | succ f ih => intro w i; simp only [moS, sk_cg h, at_cg h, ih]
theorem onS_cg (h : ∀ i, i < n → b i = b' i) (A : Ps) (op : Int → Int) : onS b n A op = onS b' n A op := by
  funext i; simp only [onS, moS_cg h]
theorem suS_cg (h : ∀ i, i < n → b i = b' i) : ∀ D, suS b n D = suS b' n D := by
  intro D
  induction D with
  | zero => simp only [suS, onS_cg h, atS_cg h]
  | succ D ih => simp only [suS, onS_cg h, atS_cg h, ih]
theorem reS_cg (h : ∀ i, i < n → b i = b' i) (S : Ps) : reS b n S = reS b' n S := by
  funext i; simp only [reS, sk_cg h, at_cg h]
theorem unS_cg (h : ∀ i, i < n → b i = b' i) (S : Ps) (U : Option Ps) : unS b n S U = unS b' n S U := by
  funext i; simp only [unS, sk_cg h, at_cg h, onS_cg h, paC_cg h, reS_cg h]
theorem utS_cg (h : ∀ i, i < n → b i = b' i) : ∀ D, utS b n D = utS b' n D := by
  intro D
  induction D with
  | zero => simp only [utS, unS_cg h, suS_cg h]
  | succ D ih => simp only [utS, unS_cg h, suS_cg h, ih]
theorem guS_cg (h : ∀ i, i < n → b i = b' i) (w : List Int) (i : Int) : guS b n w i = guS b' n w i := by
  simp only [guS, paC_cg h, suS_cg h]
theorem lcS_cg (h : ∀ i, i < n → b i = b' i) (i : Int) : lcS b n i = lcS b' n i := by
  simp only [lcS, paC_cg h, suS_cg h, sk_cg h, at_cg h, onS_cg h, utS_cg h, guS_cg h, reS_cg h, moS_cg h]
theorem laS_cg (h : ∀ i, i < n → b i = b' i) : ∀ (f : Nat) (i : Int) (cs : List (Option (List Int) × List Int)), laS b n f i cs = laS b' n f i cs := by
  intro f
  induction f with
  | zero => intro i cs; rfl
  | succ f ih => intro i cs; simp only [laS, lcS_cg h, at_cg h, sk_cg h, ih]
end
