theorem rm_loc {a d : Nat} (h : a ≤ 31) : 8 + (a + 11) + (50 * d + 300) ≤ 50 * (d + 1) + 300 := by omega
theorem invR_nr {me : MEnt} {idx : Nat} {ks ii : List Nat} {pc : Nat} {ls : Lcs} {st : List AV} {sh : List Kd} {σ : Sto} {r : Option AV} (h : invR me idx ks ii pc ls st sh σ = some (.inr (.inr r))) : False := by
  unfold invR at h
  split at h
  · have h2 := (gd_in h).2
    unfold callR at h2
    dsimp only at h2
    split at h2
    · split at h2
      · cases (gd_in h2).2
      · cases (gd_in h2).2
      · cases (gd_in h2).2
      · cases (gd_in h2).2
      · cases h2
    · cases h2
  · split at h
    · obtain ⟨-, h2⟩ := gd_in h
      unfold intrR at h2
      split at h2
      · unfold in0 at h2; split at h2 <;> first | (cases h2; done) | (cases (gd_in h2).2)
      · unfold in1 at h2; split at h2 <;> first | (cases h2; done) | (cases (gd_in h2).2)
      · unfold in2 at h2; split at h2 <;> first | (cases h2; done) | (cases (gd_in h2).2)
      · unfold in3 at h2; split at h2 <;> first | (cases h2; done) | (cases (gd_in h2).2)
      · cases h2
    · cases h
section
variable {p : Program} {l : Launch} {e : Env} {s : State} {m : MethodId} {args : Array Value} {below : List Frame} {meth : Method} {c : Code} {me : MEnt} {D : va_G} {cA : FieldType → ClassId} {A : Nat → Prop} {ad : Nat → Nat} {pc : Nat} {ls : Lcs} {st : List AV} {sh : List Kd} {σ : Sto} {H : Heap} {locs : List Loc} {cells slots : Nat} {Q : State → Prop} {lsA : Array Slot}
theorem call_run {y : MEnt} {as rest : List AV} {d X Y c1 s1 : Nat} {r : Option AV} {sh1 : List Kd} {σ1 : Sto} (B : Bd p (rm (d + 1) X Y) s m args meth c me D cA A ad) (h : stp me pc ls st sh σ = some (.inr (.inl (y, as, rest)))) (F : Fr ad me lsA ls st sh.length) (Wd : Wo s D cA ad A H locs sh σ) (hc : cells + c1 ≤ X) (hs : slots + s1 ≤ Y)
    (hM : Val y → (entA as).length ≤ eL y → (∀ v ∈ as, vOK sh.length v) → Met l (eY y) (Cond.code (eY y) (eB y) (eL y) (eR y) :: gwT) (rm d c1 s1) (aP D cA A ad as sh σ) (aQ D cA A ad sh.length r sh1 σ1) c1 s1 A) :
    ∃ arr, va_Run p l e (rm (d + 1) X Y) s m args below meth c H locs cells slots c1 s1 (F0 m pc lsA (st.map (cV ad))) (rest.map (cV ad)) (aQ D cA A ad sh.length r sh1 σ1 arr) A := by
  obtain ⟨hx, hb, hr, hml, hown, hts, hlocks, hin, hK, hA, hX, hV, hfr, hlo⟩ := B
  obtain ⟨idx, kind, pl, bs, g1, g2, g3, g4, g5⟩ := stp_call h
  have hVy : Val y := axM_val _ _ (lookup_mem g1)
  have hok := axM_ok _ _ (lookup_mem g1)
  simp only [okMb, Bool.and_eq_true, decide_eq_true_eq] at hok
  obtain ⟨hw1, hw2⟩ := hok
  have hgood : ∀ w ∈ (Cond.code (eY y) (eB y) (eL y) (eR y) :: gwT), w ∈ gwT := fun w hw => by
    rcases List.mem_cons.mp hw with rfl | hw
    · exact hVy.1
    · exact hw
  have hws : ∀ w ∈ (Cond.code (eY y) (eB y) (eL y) (eR y) :: gwT), ∀ (a' : Array Value) (U : State), s.WarmedH U.vm → w.before a' U = true := fun w hw a' U hW => word_at hW (good_of_word (gw_good (hgood w hw))) (hts w (hgood w hw))
  have hmem : ∀ w ∈ okMw (eC me) idx (eY y) kind, w ∈ lw_tbl := by
    intro w hw
    have : some w ∈ (okMw (eC me) idx (eY y) kind).map some := List.mem_map.mpr ⟨w, hw, rfl⟩
    rw [← hw1] at this
    obtain ⟨i, -, hi⟩ := List.mem_map.mp this
    exact List.mem_of_getElem? hi
  have hgw : ∀ w ∈ okMw (eC me) idx (eY y) kind, goodWord w = true → w.before args s = true := fun w hw hg => hts w (List.mem_filter.mpr ⟨hmem w hw, hg⟩)
  have hR1 : (rm d c1 s1).frames + 1 ≤ (rm (d + 1) X Y).frames := by show d + 4 + 1 ≤ d + 1 + 4; omega
  have hR2 : 8 + (eL y + 11) + (rm d c1 s1).locals ≤ (rm (d + 1) X Y).locals := rm_loc hVy.2.2.2.2.1
  have hpar : ∀ sig, parseMethodDescriptor (eY y).desc = some sig → eN y = sig.parameters.length := fun sig hsig => by
    have := hVy.2.2.2.1
    rw [hsig] at this
    exact (Option.some.inj this).symm
  have hsz : (F0 m pc lsA (st.map (cV ad))).locals.size = eL me := F.1.1
  have hroom : 2 * (F0 m pc lsA (st.map (cV ad))).monitorRoom + ((rest.map (cV ad)).map fun v => v.category).sum ≤ 8 := by
    rw [catS_map]; show 2 * 0 + _ ≤ 8; omega
  have hPc : ∀ U : State, U.heap = H → s.WarmedH U.vm → aP D cA A ad as sh σ (as.map (cV ad)).toArray U := fun U hU hW =>
    ⟨rfl, by rw [hU]; exact Wd.1, va_K.moved hW.alike hK, Wd.2.1, fun q hq => hA q (by rw [hU] at hq; exact Nat.le_trans Wd.2.2.1.1 hq), Xt_kept hX hW (fun a h1 h2 => by rw [hU]; exact Wd.2.2.1.2.1 a h1 h2)⟩
  have hf : cells + c1 ≤ (rm (d + 1) X Y).cells ∧ slots + s1 ≤ (rm (d + 1) X Y).slots := ⟨hc, hs⟩
  have S : CallFix p m c (eB me) (eL me) s args gwT (axR (eC me)) := ⟨hx, hb, hml, hown, hts⟩
  rcases g5 with ⟨rfl, hd, k, rfl, hst, hok⟩ | ⟨rfl, hd, k, rfl, hst, hok⟩ | ⟨hkind, hd, rfl, hst⟩
  · have has : ∀ v ∈ (.inr (.inr (some k)) :: bs : List AV), vOK sh.length v := fun v hv => F.2.2.2 v (by rw [hst]; simp at hv ⊢; rcases hv with h | h <;> simp [h])
    obtain ⟨fs, hk⟩ := okC_in hok
    have hci : eC y < 13 := by simpa using hw2
    have hcl : (eY y).cls = axR (eC y) := hVy.2.2.2.2.2
    obtain ⟨q1, -⟩ := klsT hci
    refine ⟨_, va_runV (C := (eY y).cls) (b := ad k) (As := bs.map (cV ad)) S (hM hVy g4 has) ⟨⟨rfl, rfl, hR1, hR2, hws, List.mem_cons_self, hts _ hVy.1, hgw (.initialized (eY y).cls) (by simp [okMw]) rfl, hVy.2.2.1, hpar, hgw (.methodLink (axR (eC me)) idx (eY y)) (by simp [okMw]) rfl⟩, hgw (.instanceMethod (eY y)) (by simp [okMw]) rfl, hgw (.selects (eY y).cls (eY y) (eY y)) (by simp [okMw]) rfl⟩ ⟨aP_blind, ?_, hPc⟩ rfl (by simp [g2]) hsz (by rw [hst]; simp [cV]) hroom hd hf⟩
    rw [hcl]
    exact va_recv hK Wd.1 q1 (wl_at hk)
  · have has : ∀ v ∈ (.inr (.inr (some k)) :: bs : List AV), vOK sh.length v := fun v hv => F.2.2.2 v (by rw [hst]; simp at hv ⊢; rcases hv with h | h <;> simp [h])
    have hw2' : eC y < 13 ∧ (eY y).name = "<init>" ∧ eR y = none := by
      simp only [Bool.and_eq_true, decide_eq_true_eq] at hw2
      exact ⟨hw2.1.1, hw2.1.2, hw2.2⟩
    have hMM := hM hVy g4 has
    have hce := hts _ hVy.1
    rw [hw2'.2.2] at hMM hce hws
    refine ⟨_, va_runI (b := ad k) (As := bs.map (cV ad)) S hMM ⟨⟨rfl, rfl, hR1, hR2, hws, List.mem_cons_self, hce, hgw (.initialized (eY y).cls) (by simp [okMw]) rfl, hVy.2.2.1, hpar, hgw (.methodLink (axR (eC me)) idx (eY y)) (by simp [okMw]) rfl⟩, hw2'.2.1, hgw (.instanceMethod (eY y)) (by simp [okMw]) rfl⟩ ⟨aP_blind, hPc⟩ rfl (by simp [g2]) hsz (by rw [hst]; simp [cV]) hroom hd hf⟩
  · have has : ∀ v ∈ as, vOK sh.length v := fun v hv => F.2.2.2 v (by rw [hst]; simp [hv])
    rcases hkind with rfl | rfl
    · exact ⟨_, va_runS (As := as.map (cV ad)) S (hM hVy g4 has) ⟨⟨rfl, rfl, hR1, hR2, hws, List.mem_cons_self, hts _ hVy.1, hgw (.initialized (eY y).cls) (by simp [okMw]) rfl, hVy.2.2.1, hpar, hgw (.methodLink (axR (eC me)) idx (eY y)) (by simp [okMw]) rfl⟩, hgw (.static (eY y)) (by simp [okMw]) rfl⟩ ⟨aP_blind, hPc⟩ rfl (by simp [g2]) hsz (by rw [hst]; simp) hroom hd hf⟩
    · refine ⟨_, va_runSN (host := RX11) (As := as.map (cV ad)) S (hM hVy g4 has) ⟨⟨⟨rfl, rfl, hR1, hR2, hws, List.mem_cons_self⟩, hts _ hVy.1, hgw (.initialized (eY y).cls) (by simp [okMw]) rfl, hVy.2.2.1, hpar, ?_⟩, hgw (.static (eY y)) (by simp [okMw]) rfl, trivial⟩ ⟨aP_blind, hPc⟩ rfl (by simp [g2]) hsz (by rw [hst]; simp) hroom hd hf⟩
      exact va_Nw.use rfl (hX.2.2.2.1 (.methodLinkNest (axR (eC me)) idx (eY y) RX11) (hmem _ (by simp [okMw])) rfl)
theorem ret_run {R : Room} {r : Option AV} (B : Bd p R s m args meth c me D cA A ad) (h : stp me pc ls st sh σ = some (.inr (.inr r))) (F : Fr ad me lsA ls st sh.length) (Wd : Wo s D cA ad A H locs sh σ) : W p l e R s m args below meth c H locs cells slots (MQ below (aQ D cA A ad sh.length r sh σ) args s cells slots A) (F0 m pc lsA (st.map (cV ad))) := by
  obtain ⟨hx, hb, hr, hml, hown, hts, hlocks, hin, hK, hA, hX, hV, hfr, hlo⟩ := B
  have hq : ∀ (rr : Option AV), (∀ v, rr = some v → vOK sh.length v) → ∀ t : State, t.heap = H → s.WarmedH t.vm → aQ D cA A ad sh.length rr sh σ args s (.returned (rr.map (cV ad))) t := fun rr hrr t ht hW =>
    ⟨ad, Ag.rf, rfl, by rw [ht]; exact Wd.1, Wd.2.1, Wd.2.2.1.F ht, Wd.2.2.2.1, Wd.2.2.2.2, Nat.le_refl _, hrr⟩
  unfold stp at h
  split at h
  · rename_i i len hd
    split at h
    · rename_i hn
      cases i with
      | ireturn =>
        cases ln_eq (b := 1) hn
        unfold stpI at h
        dsimp only at h
        split at h
        · rename_i n he
          cases h
          exact W.iret hx hb (hr.trans he) (hq (some (.inl n)) (fun v hv => by cases hv; exact F.hd)) Wd.2.2.1.2.2 hd hlocks
        · rename_i n he
          obtain ⟨h1, h2⟩ := gd_in h
          cases h2
          have h1 : n = 0 ∨ n = 1 := by simpa using h1
          exact W.zret hx hb (hr.trans he) (by rcases h1 with rfl | rfl <;> rfl) (hq (some (.inl n)) (fun v hv => by cases hv; exact F.hd)) Wd.2.2.1.2.2 hd hlocks
        · cases h
      | lreturn =>
        cases ln_eq (b := 1) hn
        unfold stpI at h
        dsimp only at h
        split at h
        · rename_i n he
          cases h
          exact W.lret hx hb (hr.trans he) (hq (some (.inr (.inl n))) (fun v hv => by cases hv; exact F.hd)) Wd.2.2.1.2.2 hd hlocks
        · cases h
      | return_ =>
        cases ln_eq (b := 1) hn
        unfold stpI at h
        dsimp only at h
        split at h
        · rename_i he
          cases h
          exact W.vret hx hb (hr.trans he) (hq none (fun v hv => by cases hv)) Wd.2.2.1.2.2 hd hlocks
        · cases h
      | invokevirtual idx => exact (invR_nr h).elim
      | invokestatic idx => exact (invR_nr h).elim
      | invokespecial idx => exact (invR_nr h).elim
      | _ =>
        exfalso
        revert h
        unfold stpI
        (try dsimp only)
        (try unfold ldI); (try unfold stI); (try unfold bi); (try unfold bj)
        repeat' split
        all_goals intro h
        all_goals first | (cases h; done) | (cases (gd_in h).2; done) | (cases (gd_in (gd_in h).2).2; done)
    · cases h
  · cases h
end
theorem MQ_mono {below : List Frame} {Qc Qc' : Array Value → State → Outcome → State → Prop} {a : Array Value} {s : State} {mc ms mc' ms' : Nat} {free : Addr → Prop} {t : State} (h : MQ below Qc a s mc ms free t) (hq : ∀ o t, Qc a s o t → Qc' a s o t) (h1 : mc = mc') (h2 : ms = ms') : MQ below Qc' a s mc' ms' free t := by
  subst h1 h2
  obtain ⟨o, a1, a2, a3, a4⟩ := h
  exact ⟨o, a1, a2, hq o t a3, a4⟩
theorem aQ_ag {D : va_G} {cA : FieldType → ClassId} {A : Nat → Prop} {ad ad' : Nat → Nat} {n n' : Nat} {r : Option AV} {sh' : List Kd} {σ' : Sto} {a : Array Value} {s t : State} {o : Outcome} (h : Ag n ad ad') (hn : n ≤ n') (hq : aQ D cA A ad' n' r sh' σ' a s o t) : aQ D cA A ad n r sh' σ' a s o t := by
  obtain ⟨ad2, a1, a2, a3, a4, a5, a6, a7, a8, a9⟩ := hq
  exact ⟨ad2, h.tr hn a1, a2, a3, a4, a5, a6, a7, Nat.le_trans hn a8, a9⟩
/-- THE ABSTRACT MACHINE IS RIGHT -/
theorem sound (l : Launch) : ∀ f, Snd l f := by
  intro f
  induction f with
  | zero => intro d me pc ls st sh σ r sh' σ' c1 s1 h; simp [exec] at h
  | succ f ih =>
    intro d me pc ls st sh σ r sh' σ' c1 s1 h p e s m args below meth c D cA A ad X Y B lsA H locs cells slots F Wd hc hs
    rw [exec] at h
    cases hstp : stp me pc ls st sh σ with
    | none => rw [hstp] at h; cases h
    | some x =>
      rw [hstp] at h
      rcases x with ⟨pc', ls', st', sh1, σ1, dc, ds⟩ | ⟨y, as, rest⟩ | r0
      · dsimp only at h
        cases h1 : exec f d me pc' ls' st' sh1 σ1 with
        | none => rw [h1] at h; cases h
        | some z =>
          obtain ⟨r2, sh2, σ2, c2, s2⟩ := z
          rw [h1] at h
          simp only [Option.some.injEq, Prod.mk.injEq] at h
          obtain ⟨rfl, rfl, rfl, rfl, rfl⟩ := h
          refine stp_sim B hstp lsA H locs cells slots _ F Wd (by show _ ≤ X; omega) (by show _ ≤ Y; omega) fun ad' lsA' H' locs' hag F' Wd' hle => ?_
          refine W_mono (ih d me pc' ls' st' sh1 σ1 r2 sh2 σ2 c2 s2 h1 p e s m args below meth c D cA A ad' X Y (B.ag hag) lsA' H' locs' (cells + dc) (slots + ds) F' Wd' (by omega) (by omega)) fun t ht => ?_
          exact MQ_mono ht (fun o t hq => aQ_ag hag hle hq) (by omega) (by omega)
      · cases d with
        | zero => cases h
        | succ d =>
          dsimp only at h
          cases h1 : exec f d y 0 (entL (eL y) as) [] sh σ with
          | none => rw [h1] at h; cases h
          | some z =>
            obtain ⟨r1, sh1, σ1, ca, sa⟩ := z
            rw [h1] at h
            dsimp only at h
            cases h2 : exec f (d + 1) me (pc + 3) ls (r1.toList ++ rest) sh1 σ1 with
            | none => rw [h2] at h; cases h
            | some z =>
              obtain ⟨r2, sh2, σ2, c2, s2⟩ := z
              rw [h2] at h
              simp only [Option.some.injEq, Prod.mk.injEq] at h
              obtain ⟨rfl, rfl, rfl, rfl, rfl⟩ := h
              obtain ⟨arr, hrun⟩ := call_run (l := l) (e := e) (below := below) (cells := cells) (slots := slots) (r := r1) (sh1 := sh1) (σ1 := σ1) (c1 := ca) (s1 := sa) B hstp F Wd (by omega) (by omega) (fun hVy hl has => met_of ih hVy h1 hl has Wd.2.2.2.1 Wd.2.2.2.2 D cA A ad)
              refine W_call hrun Wd.2.2.1 fun ad' H1 locs1 a1 a2 a3 a4 a5 a6 a7 a8 => ?_
              have hrest : ∀ v ∈ rest, vOK sh.length v := by
                obtain ⟨idx, kind, pl, bs, -, -, -, -, g5⟩ := stp_call hstp
                intro v hv
                refine F.2.2.2 v ?_
                rcases g5 with ⟨-, -, k, -, hst, -⟩ | ⟨-, -, k, -, hst, -⟩ | ⟨-, -, -, hst⟩ <;> rw [hst] <;> simp [hv]
              have hmap : (r1.map (cV ad')).toList ++ rest.map (cV ad) = (r1.toList ++ rest).map (cV ad') := by
                rw [List.map_append, map_ag a1 hrest]
                cases r1 <;> rfl
              rw [hmap]
              have F' : Fr ad' me lsA ls (r1.toList ++ rest) sh1.length := by
                refine ⟨by rw [loc_ag a1 ls 0 F.2.2.1]; exact F.1, F.2.1, fun v hv => (F.2.2.1 v hv).mono a7, fun v hv => ?_⟩
                rcases List.mem_append.mp hv with hv | hv
                · cases r1 with
                  | none => cases hv
                  | some w => simp at hv; subst hv; exact a8 _ rfl
                · exact (hrest v hv).mono a7
              refine W_mono (ih (d + 1) me (pc + 3) ls (r1.toList ++ rest) sh1 σ1 r2 sh2 σ2 c2 s2 h2 p e s m args below meth c D cA A ad' X Y (B.ag a1) lsA H1 locs1 (cells + ca) (slots + sa) F' ⟨a2, a3, a4, a5, a6⟩ (by omega) (by omega)) fun t ht => ?_
              exact MQ_mono ht (fun o t hq => aQ_ag a1 a7 hq) (by omega) (by omega)
      · simp only [Option.some.injEq, Prod.mk.injEq] at h
        obtain ⟨rfl, rfl, rfl, rfl, rfl⟩ := h
        exact ret_run B hstp F Wd
