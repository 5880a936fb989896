/-! ===== xr_catch: what is thrown is caught by the first row of the table, its name resolved before or not ===== -/
section XRC
variable {e : Env} {S : State} {f : JFrame} {q : Addr} {meth : Method} {c : Code} {x : ExceptionTableEntry} {suf : List ExceptionTableEntry} {vm₁ : Vm} {c4 : ClassId} {ce : Cell}
theorem xr_find {Q : Handler → Pre} {E : CtlPost} {d : Bool} {acts : List Action} (hm : S.vm.method? f.method = some meth) (hc : meth.code = some c) (hsp : c.exceptionTable.toList = x :: suf) (hx : covers x f.pc = true) (h0 : x.catchType ≠ 0) (hgv : (Jvm.resolveClass f.method.cls x.catchType).Gives e.toSetting S.vm (.ok c4) vm₁) (hsz : vm₁.classes.size ≤ S.vm.classes.size) (hcell : S.heap[q]? = some ce) (hv : ce.vm = .none) (hk : ∃ k, vm₁.classes[ce.cls]? = some k) (hk4 : ∃ k, vm₁.classes[c4]? = some k) (ha : vm₁.assignable ce.cls c4 = true) (hq : Q (.found x.handlerPc) d acts (S.setVm vm₁)) : wp (findHandler f q) Q E e d acts S := by
  rw [Jvm.W.findHandler_eq hm hc, hsp]
  unfold findHandler.go
  obtain ⟨h1, h2⟩ := hgv.op (op := VmOp.resolveClass f.method.cls x.catchType) rfl
  rw [if_pos hx, if_neg (by simpa using h0), wp_bind', Jvm.W.vmOp_same _ (by rw [h2]; exact hsz), h1, h2]
  dsimp only
  rw [wp_bind', Jvm.W.isInstance]
  refine ⟨ce, hcell, fun k z => (by rw [hv] at z; cases z), hk, hk4, ?_⟩
  rw [show (S.setVm vm₁).vm.assignable ce.cls c4 = true from ha, if_pos rfl]
  simpa [VmOp.dirties, VmOp.acts] using hq
theorem xr_step {r : List Frame} (hm : S.vm.method? f.method = some meth) (hc : meth.code = some c) (hsp : c.exceptionTable.toList = x :: suf) (hx : covers x f.pc = true) (h0 : x.catchType ≠ 0) (hgv : (Jvm.resolveClass f.method.cls x.catchType).Gives e.toSetting S.vm (.ok c4) vm₁) (hsz : vm₁.classes.size ≤ S.vm.classes.size) (hcell : S.heap[q]? = some ce) (hv : ce.vm = .none) (hk : ∃ k, vm₁.classes[ce.cls]? = some k) (hk4 : ∃ k, vm₁.classes[c4]? = some k) (ha : vm₁.assignable ce.cls c4 = true) :
    (stepThrowing e S q (.java f :: r)).1 = (S.setVm vm₁).setFrames (.java { f with pc := x.handlerPc, stack := [.ref q] } :: r) := by
  simp only [stepThrowing, searchFrame, vmDo]
  generalize hr : Sem.go _ e false [] S = res
  obtain ⟨as, rfl, -⟩ := Sem.eq_ok_of hr (a := Handler.found x.handlerPc) (s' := S.setVm vm₁) (acts' := []) (by
    rw [wp_bind']
    refine xr_find hm hc hsp hx h0 hgv hsz hcell hv hk hk4 ha ?_
    exact ⟨rfl, rfl, rfl⟩)
  rfl
end XRC
section XRD
variable {p : Program} {l : Launch} {e : Env} {R : Room} {s : State} {m : MethodId} {args : Array Value} {below : List Frame} {meth : Method} {c : Code} {H : Heap} {locs : List Loc} {cells slots : Nat} {Q : State → Prop} {ls : Array Slot} {rest : List Value} {pc : Nat}
theorem xr_catch {own name : String} {E : String} {ce : Cell} {q : Addr} (hown : s.vm.findClass own = some m.cls) (x : ExceptionTableEntry) (suf : List ExceptionTableEntry) (hsp : c.exceptionTable.toList = x :: suf) (hx : covers x pc = true) (h0 : x.catchType ≠ 0)
    (hlink : (Cond.classLink own x.catchType name).before args s = true) (hcast : (Cond.castable E name).before args s = true) (hcell : H[q]? = some ce) (hv : ce.vm = .none) (hcl : s.vm.findClass E = some ce.cls)
    (kk : W p l e R s m args below meth c H locs cells slots Q (F0 m x.handlerPc ls [.ref q])) : vx_W p l e R s m args below meth c H locs cells slots Q (F0 m pc ls rest) q := by
  intro T hT X
  obtain ⟨c3, c4, hc3, hc4, hasg⟩ := Cond.castable_spec hcast
  have e3 : c3 = ce.cls := Option.some.inj (hc3.symm.trans hcl)
  obtain ⟨c5, hc5, hl⟩ := Cond.classLink_spec hown hlink e.platform (by rw [X.admits.platform])
  have e5 : c5 = c4 := Option.some.inj (hc5.symm.trans hc4)
  subst e5
  obtain ⟨hgv, hW, -⟩ := State.classEntry (e := e) X.warmed hl
  have hsz : (T.vm.noted m.cls x.catchType (.cls c5)).classes.size ≤ T.vm.classes.size := Nat.le_of_eq (Vm.size_noted _ _ _ _)
  generalize T.vm.noted m.cls x.catchType (.cls c5) = vm₁ at hgv hW hsz
  have hal : s.vm.Alike vm₁ := hW.alike
  obtain ⟨t, a1, b1⟩ := kk (T.setVm vm₁) hT (X.noted hW)
  refine ⟨t, ?_, b1⟩
  obtain ⟨k1, y1⟩ := Vm.classAt_of_findClass hcl
  obtain ⟨k2, y2⟩ := Vm.classAt_of_findClass hc5
  obtain ⟨j1, z1, -⟩ := hal.2.2 _ _ y1
  obtain ⟨j2, z2, -⟩ := hal.2.2 _ _ y2
  obtain ⟨hgo, hw⟩ := At.throwing (g := F0 m pc ls rest) X.here q
  refine Steps.head hgo hw ?_
  obtain ⟨g₀, hg⟩ := Option.isSome_iff_exists.mp X.here.top
  obtain ⟨r, hr⟩ := State.topJava?_eq_some.mp hg
  rw [stepThread_throwing (frames_entered X.here.top _), xr_step (S := (T.setTop (F0 m pc ls rest)).pushFrame (.throwing q)) (f := F0 m pc ls rest) (meth := meth) (c := c) (x := x) (suf := suf) (vm₁ := vm₁) (c4 := c5) (ce := ce) (by rw [throwing_vm]; exact X.method') X.code hsp hx h0 (by rw [throwing_vm]; exact hgv) (by rw [throwing_vm]; exact hsz) (by rw [throwing_heap, hT]; exact hcell) hv ⟨j1, z1⟩ ⟨j2, z2⟩ (by rw [hal.assignable, ← e3]; exact hasg)]
  have u1 : (T.setVm vm₁).setTop (F0 m x.handlerPc ls [.ref q]) = (T.setVm vm₁).setFrames (.java (F0 m x.handlerPc ls [.ref q]) :: r) := State.setTop_of_frames _ (show (T.setVm vm₁).frames = _ from hr)
  rw [u1] at a1
  have u2 : ∀ F : List Frame, (((T.setTop (F0 m pc ls rest)).pushFrame (.throwing q)).setVm vm₁).setFrames F = (T.setVm vm₁).setFrames F := fun F => by
    rw [State.pushFrame, State.setTop_of_frames _ hr]
    show (((T.setVm vm₁).setFrames _).setFrames _).setFrames F = _
    rw [State.setFrames_setFrames, State.setFrames_setFrames]
  rw [u2, hr]
  exact a1
end XRD
