section CT
theorem ct_row {e : Env} {u : State} {f : JFrame} {a : Addr} {x : ExceptionTableEntry} {k : ClassId} {cell : Cell} {mt : Method} {cd : Code}
    (hm : u.vm.method? f.method = some mt) (hc : mt.code = some cd) (htab : cd.exceptionTable.toList = [x]) (hx : covers x f.pc = true) (h0 : x.catchType ≠ 0)
    (hl : u.vm.ClassLinks e.platform f.method.cls x.catchType k) (hcell : u.heap[a]? = some cell) (hv : cell.vm = .none) (hfit : u.vm.assignable cell.cls k = true) (hk : ∃ z, u.vm.classes[k]? = some z) (r : List Frame) :
    (stepThrowing e u a (.java f :: r)).1 = (u.setVm (u.vm.noted f.method.cls x.catchType (.cls k))).setFrames (.java { f with pc := x.handlerPc, stack := [.ref a] } :: r) := by
  obtain ⟨k1, hk1⟩ := Vm.classAt_of_assignable hfit hk
  obtain ⟨k2, hk2⟩ := hk
  have al : u.vm.Alike (u.vm.noted f.method.cls x.catchType (.cls k)) := (Vm.Alike.refl u.vm).noted _ _ _
  obtain ⟨n1, hn1, -⟩ := al.2.2 _ _ hk1
  obtain ⟨n2, hn2, -⟩ := al.2.2 _ _ hk2
  have hfit2 : (u.vm.noted f.method.cls x.catchType (.cls k)).assignable cell.cls k = true := by rw [al.assignable]; exact hfit
  have hst : ∀ z, cell.vm ≠ .statics z := fun z h => by rw [hv] at h; cases h
  obtain ⟨r1, r2⟩ := (resolveClass_links e.toSetting hl).op (op := VmOp.resolveClass f.method.cls x.catchType) rfl
  have hx2 := hx
  simp only [covers] at hx2
  have key : ∀ (Q : Handler → Pre) (E : CtlPost) (d : Bool) (acts : List Action), wp (findHandler f a) Q E e d acts u ↔ Q (.found x.handlerPc) d acts (u.setVm (u.vm.noted f.method.cls x.catchType (.cls k))) := by
    intro Q E d acts
    rw [W.findHandler_eq hm hc, htab]
    simp [findHandler.go, hx2, h0, r1, r2, hcell, hst, hn1, hn2, hfit2, VmOp.dirties, VmOp.acts]
  simp only [stepThrowing, searchFrame, vmDo]
  generalize hg : Sem.go _ e false [] u = res
  obtain ⟨as, rfl, -⟩ := Sem.eq_ok_of hg (a := Handler.found x.handlerPc) (s' := u.setVm (u.vm.noted f.method.cls x.catchType (.cls k))) (acts' := []) (by simp [key _ _ _ _])
  rfl
variable {p : Program} {l : Launch} {e : Env} {R : Room} {s : State} {m : MethodId} {args : Array Value} {below : List Frame} {meth : Method} {c : Code} {H : Heap} {locs : List Loc} {cells slots : Nat} {Q : State → Prop}
variable {pc : Nat} {ls : Array Slot} {rest : List Value}
theorem ct_catch {own name : String} {E : String} {ce : Cell} {q : Addr} (hown : s.vm.findClass own = some m.cls) (x : ExceptionTableEntry) (htab : c.exceptionTable.toList = [x]) (hx : covers x pc = true) (h0 : x.catchType ≠ 0)
    (hlink : (Cond.classLink own x.catchType name).before args s = true) (hcast : (Cond.castable E name).before args s = true) (hcell : H[q]? = some ce) (hv : ce.vm = .none) (hcl : s.vm.findClass E = some ce.cls)
    (kk : W p l e R s m args below meth c H locs cells slots Q (F0 m x.handlerPc ls [.ref q])) : vx_W p l e R s m args below meth c H locs cells slots Q (F0 m pc ls rest) q := by
  intro T hT X
  obtain ⟨a1, k, ha1, hk1, hfit⟩ := Cond.castable_spec hcast
  cases Option.some.inj (ha1.symm.trans hcl)
  obtain ⟨k', hk', hln⟩ := Cond.classLink_spec hown hlink e.platform (by rw [X.admits.platform])
  cases Option.some.inj (hk1.symm.trans hk')
  obtain ⟨dk, _, _, kt, hd, _, _, _, _, hkt, _, hopen⟩ := hln.here
  have al := X.warmed.alike
  obtain ⟨kt', hkt', -⟩ := al.2.2 _ _ hkt
  have hfitT : T.vm.assignable ce.cls k = true := by rw [al.assignable]; exact hfit
  have X' := X.noted (X.warmed.noted hd hopen (State.rightAt_cls hln))
  obtain ⟨t, st, fin⟩ := kk (T.setVm (T.vm.noted m.cls x.catchType (.cls k))) hT X'
  refine ⟨t, ?_, fin⟩
  obtain ⟨go, wi⟩ := X.here.throwing (g := F0 m pc ls rest) q
  refine Steps.head go wi ?_
  obtain ⟨g0, hfr⟩ := X.frames_eq
  have hfr' : (T.setVm (T.vm.noted m.cls x.catchType (.cls k))).frames = .java g0 :: below := hfr
  rw [stepThread_throwing (frames_entered X.here.top _)]
  rw [ct_row (u := (T.setTop (F0 m pc ls rest)).pushFrame (.throwing q)) (f := F0 m pc ls rest) (k := k) (cell := ce) (mt := meth) (cd := c) X.method' X.code htab hx h0 (X.warmed.classLinks hln) (by rw [← hT] at hcell; exact hcell) hv hfitT ⟨kt', hkt'⟩]
  rw [State.setTop_of_frames _ hfr'] at st
  rw [hfr, List.tail_cons, State.pushFrame, State.setTop_of_frames _ hfr]
  have swp : ∀ (u : State) (v : Vm) (F G : List Frame), ((u.setFrames F).setVm v).setFrames G = (u.setVm v).setFrames G := fun u v F G => by
    have sw : (u.setFrames F).setVm v = (u.setVm v).setFrames F := rfl
    rw [sw, State.setFrames_setFrames]
  rw [swp, swp]
  exact st
end CT
