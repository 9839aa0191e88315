-- a callee's throw meets the rows of a table: each row's class link may be cold
section Catch
variable {p : Program} {l : Launch} {e : Env} {R : Room} {s : State} {m : MethodId} {args : Array Value} {below : List Frame} {meth : Method} {c : Code} {T : State} {H : Heap} {locs : List Loc} {cells slots : Nat}
/-- one row that covers: it takes the object, or the search goes on; its link is noted either way -/
theorem vn_row {Q : Handler → Pre} {E : CtlPost} {d : Bool} {acts : List Action} {S : State} {f : JFrame} {a : Addr} {x : ExceptionTableEntry} {t : List ExceptionTableEntry} {k : ClassId} {cell : Cell} (hx : covers x f.pc = true) (h0 : x.catchType ≠ 0)
    (hl : S.vm.ClassLinks e.platform f.method.cls x.catchType k) (hcell : S.heap[a]? = some cell) (hv : cell.vm = .none) (h1 : ∃ z, S.vm.classes[cell.cls]? = some z) (h2 : ∃ z, S.vm.classes[k]? = some z) :
    wp (findHandler.go f a (x :: t)) Q E e d acts S ↔ if S.vm.assignable cell.cls k = true then Q (.found x.handlerPc) d acts (S.setVm (S.vm.noted f.method.cls x.catchType (.cls k))) else wp (findHandler.go f a t) Q E e d acts (S.setVm (S.vm.noted f.method.cls x.catchType (.cls k))) := by
  have hobj : ∀ z, cell.vm ≠ .statics z := fun z q => by rw [hv] at q; cases q
  have hr := (resolveClass_links e.toSetting hl).op (op := VmOp.resolveClass f.method.cls x.catchType) rfl
  have hal : S.vm.Alike (S.vm.noted f.method.cls x.catchType (.cls k)) := (Vm.Alike.refl S.vm).noted _ _ _
  obtain ⟨z1, h1⟩ := h1
  obtain ⟨z2, h2⟩ := h2
  obtain ⟨y1, g1, -⟩ := hal.2.2 _ _ h1
  obtain ⟨y2, g2, -⟩ := hal.2.2 _ _ h2
  simp only [covers] at hx
  cases hf : S.vm.assignable cell.cls k
  · have hf' : (S.vm.noted f.method.cls x.catchType (.cls k)).assignable cell.cls k = false := by rw [hal.assignable]; exact hf
    simp [findHandler.go, hx, h0, hr.1, hr.2, hcell, hobj, g1, g2, hf', VmOp.dirties, VmOp.acts]
  · have hf' : (S.vm.noted f.method.cls x.catchType (.cls k)).assignable cell.cls k = true := by rw [hal.assignable]; exact hf
    simp [findHandler.go, hx, h0, hr.1, hr.2, hcell, hobj, g1, g2, hf', VmOp.dirties, VmOp.acts]
/-- the search has found a handler: the frame goes on there -/
theorem vn_go {tb : Tables} {target : State} {g : JFrame} {a : Addr} (h : At T g.method c below) {pc : Nat} {vm' : Vm}
    (hfind : ∀ (Q : Handler → Pre) (E : CtlPost) (d : Bool) (acts : List Action), wp (findHandler g a) Q E e d acts ((T.setTop g).pushFrame (.throwing a)) ↔ Q (.found pc) d acts (((T.setTop g).pushFrame (.throwing a)).setVm vm'))
    (hrest : Steps tb e below ((T.setVm vm').setTop { g with pc := pc, stack := [.ref a] }) target) : Steps tb e below ((T.setTop g).pushFrame (.throwing a)) target := by
  have hone : ∀ r : List Frame, (stepThrowing e ((T.setTop g).pushFrame (.throwing a)) a (.java g :: r)).Is ((((T.setTop g).pushFrame (.throwing a)).setVm vm').setFrames (.java { g with pc := pc, stack := [.ref a] } :: r)) [] := by
    intro r
    simp only [stepThrowing, searchFrame, vmDo]
    generalize hr : Sem.go _ e false [] ((T.setTop g).pushFrame (.throwing a)) = res
    obtain ⟨as, rfl, ha⟩ := Sem.eq_ok_of hr (a := Handler.found pc) (s' := ((T.setTop g).pushFrame (.throwing a)).setVm vm') (acts' := []) (by simp [hfind _ _ _ _])
    exact ⟨rfl, ha⟩
  have hin := h.throwing a
  refine Steps.head hin.1 hin.2 ?_
  rw [stepThread_throwing (frames_entered h.top _), (hone _).1]
  obtain ⟨g0, hg0⟩ := Option.isSome_iff_exists.mp h.top
  obtain ⟨r, hr⟩ := State.topJava?_eq_some.mp hg0
  have hr' : (T.setVm vm').frames = .java g0 :: r := hr
  have sv : ∀ (u : State) (F G : List Frame), ((u.setFrames F).setVm vm').setFrames G = (u.setVm vm').setFrames G := by
    intro u F G
    rw [show (u.setFrames F).setVm vm' = (u.setVm vm').setFrames F from rfl, State.setFrames_setFrames]
  rw [State.setTop_of_frames _ hr'] at hrest
  rw [hr, List.tail_cons, State.pushFrame, sv, State.setTop_of_frames _ hr, sv]
  exact hrest
/-- what a row's link gives: its class, and the tables with the link noted -/
theorem vn_link {own name : String} {x : ExceptionTableEntry} (X : Stand p l e R s m args below meth c T locs cells slots) (hown : s.vm.findClass own = some m.cls) (hlink : (Cond.classLink own x.catchType name).before args s = true) :
    ∃ k, s.vm.findClass name = some k ∧ (∃ z, s.vm.classes[k]? = some z) ∧ ∀ vm' : Vm, s.WarmedH vm' → vm'.ClassLinks e.platform m.cls x.catchType k ∧ s.WarmedH (vm'.noted m.cls x.catchType (.cls k)) := by
  have hpl : e.platform.magicAccessors = ({} : Platform).magicAccessors := by rw [X.admits.platform]
  obtain ⟨k, hk, hl⟩ := Cond.classLink_spec hown hlink e.platform hpl
  obtain ⟨dk, _, _, kt, hd, _, _, _, _, hkt, _, hopen⟩ := hl.here
  exact ⟨k, hk, ⟨kt, hkt⟩, fun vm' hW => ⟨hW.classLinks hl, hW.noted hd hopen (State.rightAt_cls hl)⟩⟩
theorem vn_at {vm vm' : Vm} {i : Nat} (h : vm.Alike vm') (hz : ∃ z, vm.classes[i]? = some z) : ∃ z, vm'.classes[i]? = some z := by
  obtain ⟨z, hz⟩ := hz
  obtain ⟨y, hy, -⟩ := h.2.2 _ _ hz
  exact ⟨y, hy⟩
/-- the first row takes it -/
theorem vn_first {Q : State → Prop} {pc : Nat} {ls : Array Slot} {rest : List Value} {own n1 E : String} {ce : Cell} {q : Addr} {x1 : ExceptionTableEntry} {suf : List ExceptionTableEntry} (hown : s.vm.findClass own = some m.cls) (htab : c.exceptionTable.toList = x1 :: suf) (hx1 : covers x1 pc = true) (h1 : x1.catchType ≠ 0)
    (hl1 : (Cond.classLink own x1.catchType n1).before args s = true) (hcast : (Cond.castable E n1).before args s = true) (hcell : H[q]? = some ce) (hv : ce.vm = .none) (hcl : s.vm.findClass E = some ce.cls)
    (kk : W p l e R s m args below meth c H locs cells slots Q (F0 m x1.handlerPc ls [.ref q])) : vx_W p l e R s m args below meth c H locs cells slots Q (F0 m pc ls rest) q := by
  intro T hT X
  obtain ⟨k, hk, hz, hkk⟩ := vn_link X hown hl1
  obtain ⟨a1, a2, b1, b2, b3⟩ := Cond.castable_spec hcast
  cases Option.some.inj (b1.symm.trans hcl)
  cases Option.some.inj (b2.symm.trans hk)
  obtain ⟨f1, f2⟩ := hkk T.vm X.warmed
  have hal := X.warmed.alike
  have hce : ((T.setTop (F0 m pc ls rest)).pushFrame (.throwing q)).heap[q]? = some ce := by
    show T.heap[q]? = some ce
    rw [hT]; exact hcell
  have hasg : T.vm.assignable ce.cls k = true := by rw [hal.assignable]; exact b3
  obtain ⟨t, st, hq⟩ := kk (T.setVm (T.vm.noted m.cls x1.catchType (.cls k))) hT (X.noted f2)
  refine ⟨t, ?_, hq⟩
  refine vn_go (g := F0 m pc ls rest) X.here (pc := x1.handlerPc) (vm' := T.vm.noted m.cls x1.catchType (.cls k)) (fun Q E d acts => ?_) st
  rw [Jvm.W.findHandler_eq (meth := meth) (code := c) X.method' X.code, htab]
  refine (vn_row (f := F0 m pc ls rest) (S := (T.setTop (F0 m pc ls rest)).pushFrame (.throwing q)) hx1 h1 f1 hce hv (vn_at hal (Vm.classAt_of_findClass hcl)) (vn_at hal hz)).trans ?_
  rw [if_pos (show ((T.setTop (F0 m pc ls rest)).pushFrame (.throwing q)).vm.assignable ce.cls k = true from hasg)]
  exact Iff.rfl
/-- the first row lets it pass, the second takes it -/
theorem vn_second {Q : State → Prop} {pc : Nat} {ls : Array Slot} {rest : List Value} {own n1 n2 E : String} {ce : Cell} {q : Addr} {x1 x2 : ExceptionTableEntry} {suf : List ExceptionTableEntry} (hown : s.vm.findClass own = some m.cls) (htab : c.exceptionTable.toList = x1 :: x2 :: suf) (hx1 : covers x1 pc = true) (h1 : x1.catchType ≠ 0) (hx2 : covers x2 pc = true) (h2 : x2.catchType ≠ 0)
    (hl1 : (Cond.classLink own x1.catchType n1).before args s = true) (hl2 : (Cond.classLink own x2.catchType n2).before args s = true) (hno : va_Nc E n1 s) (hcast : (Cond.castable E n2).before args s = true) (hcell : H[q]? = some ce) (hv : ce.vm = .none) (hcl : s.vm.findClass E = some ce.cls)
    (kk : W p l e R s m args below meth c H locs cells slots Q (F0 m x2.handlerPc ls [.ref q])) : vx_W p l e R s m args below meth c H locs cells slots Q (F0 m pc ls rest) q := by
  intro T hT X
  obtain ⟨k1, hk1, hz1, hkk1⟩ := vn_link X hown hl1
  obtain ⟨k2, hk2, hz2, hkk2⟩ := vn_link X hown hl2
  obtain ⟨c1, c2, d1, d2, d3⟩ := hno
  cases Option.some.inj (d1.symm.trans hcl)
  cases Option.some.inj (d2.symm.trans hk1)
  obtain ⟨a1, a2, b1, b2, b3⟩ := Cond.castable_spec hcast
  cases Option.some.inj (b1.symm.trans hcl)
  cases Option.some.inj (b2.symm.trans hk2)
  obtain ⟨f1, f2⟩ := hkk1 T.vm X.warmed
  obtain ⟨g1, g2⟩ := hkk2 _ f2
  have hal := X.warmed.alike
  have hal2 := f2.alike
  have hce : ((T.setTop (F0 m pc ls rest)).pushFrame (.throwing q)).heap[q]? = some ce := by
    show T.heap[q]? = some ce
    rw [hT]; exact hcell
  have hasg1 : ¬ T.vm.assignable ce.cls k1 = true := by rw [hal.assignable, d3]; exact Bool.false_ne_true
  have hasg2 : (T.vm.noted m.cls x1.catchType (.cls k1)).assignable ce.cls k2 = true := by rw [hal2.assignable]; exact b3
  obtain ⟨t, st, hq⟩ := kk (T.setVm ((T.vm.noted m.cls x1.catchType (.cls k1)).noted m.cls x2.catchType (.cls k2))) hT (X.noted g2)
  refine ⟨t, ?_, hq⟩
  refine vn_go (g := F0 m pc ls rest) X.here (pc := x2.handlerPc) (vm' := (T.vm.noted m.cls x1.catchType (.cls k1)).noted m.cls x2.catchType (.cls k2)) (fun Q E d acts => ?_) st
  rw [Jvm.W.findHandler_eq (meth := meth) (code := c) X.method' X.code, htab]
  refine (vn_row (f := F0 m pc ls rest) (S := (T.setTop (F0 m pc ls rest)).pushFrame (.throwing q)) hx1 h1 f1 hce hv (vn_at hal (Vm.classAt_of_findClass hcl)) (vn_at hal hz1)).trans ?_
  rw [if_neg (show ¬ ((T.setTop (F0 m pc ls rest)).pushFrame (.throwing q)).vm.assignable ce.cls k1 = true from hasg1)]
  refine (vn_row (f := F0 m pc ls rest) (S := ((T.setTop (F0 m pc ls rest)).pushFrame (.throwing q)).setVm (T.vm.noted m.cls x1.catchType (.cls k1))) hx2 h2 g1 hce hv (vn_at hal2 (Vm.classAt_of_findClass hcl)) (vn_at hal2 hz2)).trans ?_
  rw [if_pos (show (((T.setTop (F0 m pc ls rest)).pushFrame (.throwing q)).setVm (T.vm.noted m.cls x1.catchType (.cls k1))).vm.assignable ce.cls k2 = true from hasg2)]
  exact Iff.rfl
end Catch
