/-! WHAT A THROW ASKS beside the good words: as the law's start has it, below B nothing changes -/
def st_X (B : Nat) (U : State) (H : Heap) : Prop := ∃ s0 : State, s0.WarmedH U.vm ∧ s0.heap.size = B ∧ (∀ q : Nat, q < B → H[q]? = s0.heap[q]?) ∧ (∀ w ∈ xBad, w.before #[] s0 = true) ∧ ∀ z ∈ xStr, ∃ a, vk_R "HarbourText" z.1 z.2 a s0
theorem st_X.warm {B : Nat} {s U : State} {H : Heap} (hW : s.WarmedH U.vm) (h : st_X B s H) : st_X B U H := by
  obtain ⟨s0, h1, h2, h3, h4, h5⟩ := h
  exact ⟨s0, State.WarmedH.trans h1 hW, h2, h3, h4, h5⟩
theorem st_X.same {B : Nat} {u U : State} {H : Heap} (hv : u.vm = U.vm) (h : st_X B u H) : st_X B U H := by
  obtain ⟨s0, h1, h2, h3, h4, h5⟩ := h
  exact ⟨s0, by rw [← hv]; exact h1, h2, h3, h4, h5⟩
theorem st_X.kept {B : Nat} {U : State} {H H1 : Heap} {locs : List Loc} (h : st_X B U H) (hB : B ≤ H.size) (hS : va_S (fun q => B ≤ q) H H1 locs) : st_X B U H1 := by
  obtain ⟨s0, h1, h2, h3, h4, h5⟩ := h
  exact ⟨s0, h1, h2, fun q hq => (hS.2.1 q (Nat.lt_of_lt_of_le hq hB) (Nat.not_le.mpr hq)).trans (h3 q hq), h4, h5⟩
theorem xw_tab {s0 s : State} {args : Array Value} (hW : s0.WarmedH s.vm) {w : Cond} (h1 : w.onTables = true) (h2 : w.keepsFace = true) (h : w.before #[] s0 = true) : w.before args s = true := by
  have h3 := Cond.before_shiftedFace (State.Shifted.of_warmed hW) w h2 h
  rw [Cond.onTables_vm (A' := args) (U' := s) s.vm w h1, State.setVm_self] at h3
  exact h3
theorem xw_lays {s0 s : State} {args : Array Value} {n d : String} (hW : s0.WarmedH s.vm) (hH : ∀ q : Nat, q < s0.heap.size → s.heap[q]? = s0.heap[q]?) (h : (Cond.laysStatic Bundle.tN n d).before #[] s0 = true) : (Cond.laysStatic Bundle.tN n d).before args s = true := by
  obtain ⟨c, k, i, f, a, cell, hc, hi, hst, ha, hcell, hs, hcls, hlt, hty⟩ := Cond.laysStatic_spec (Cond.laysStatic_setVm hW.alike h)
  exact Cond.laysStatic_of (s := s) hc hi hst ha ((hH a (Array.getElem?_eq_some_iff.mp hcell).1).trans hcell) hs hcls hlt hty
theorem xw_ref {s0 s : State} {args : Array Value} {n d : String} (hW : s0.WarmedH s.vm) (hH : ∀ q : Nat, q < s0.heap.size → s.heap[q]? = s0.heap[q]?) (h1 : (Cond.laysStatic Bundle.tN n d).before #[] s0 = true) (h2 : (Cond.initialized Bundle.tN).before #[] s0 = true) (h : (Cond.isRef (.static Bundle.tN n d)).before #[] s0 = true) : (Cond.isRef (.static Bundle.tN n d)).before args s = true := by
  have h3 : va_Zq Bundle.tN n d (fun q => s0.heap.size ≤ q) s s.heap := ((va_Zqof h1 h2 h (A := fun q => s0.heap.size ≤ q) (fun a ha => Nat.not_le.mpr ha)).moved hW.alike).kept (fun q hq _ => hH q hq)
  rcases h3 with h3 | ⟨t, h3⟩
  · obtain ⟨cf, kf, fi, f, a, cell, z1, z2, z3, z4, z5, z6, z7, z8⟩ := h3
    simp [Cond.before, Cond.holds, Cond.value, Term.eval, State.fieldNamed?, z1, z2, z4, z5, z6, z7, Value.isRef]
  · obtain ⟨cf, kf, fi, f, a, cell, z1, z2, z3, z4, z5, z6, z7, z8⟩ := h3
    simp [Cond.before, Cond.holds, Cond.value, Term.eval, State.fieldNamed?, z1, z2, z4, z5, z6, z7, Value.isRef]
theorem st_X.words {B : Nat} {s : State} {args : Array Value} (h : st_X B s s.heap) : ∀ w ∈ xBad, w.before args s = true := by
  obtain ⟨s0, h1, h2, h3, h4, h5⟩ := h
  subst h2
  intro w hw
  have h6 := h4 w hw
  simp only [xBad, List.mem_cons, List.not_mem_nil, or_false] at hw
  rcases hw with rfl | rfl | rfl | rfl | rfl | rfl | rfl | rfl | rfl | rfl | rfl
  · exact xw_tab h1 rfl rfl h6
  · exact xw_tab h1 rfl rfl h6
  · exact xw_tab h1 rfl rfl h6
  · exact xw_tab h1 rfl rfl h6
  · exact xw_tab h1 rfl rfl h6
  · exact xw_tab h1 rfl rfl h6
  · exact xw_lays h1 h3 h6
  · exact xw_lays h1 h3 h6
  · exact xw_ref h1 h3 (h4 _ xb_6) (h4 _ xb_10) h6
  · exact xw_ref h1 h3 (h4 _ xb_7) (h4 _ xb_10) h6
  · exact xw_tab h1 rfl rfl h6
theorem st_X.str {B : Nat} {s : State} {H : Heap} (h : st_X B s H) {z : Nat × String} (hz : z ∈ xStr) : ∃ a, vk_R "HarbourText" z.1 z.2 a s := by
  obtain ⟨s0, h1, h2, h3, h4, h5⟩ := h
  obtain ⟨a, ha⟩ := h5 z hz
  exact ⟨a, ha.warm h1⟩
theorem x_keeps {s t : State} {k n : Nat} (h : s.sameButNew t [] k n) : ∀ q : Nat, q < s.heap.size → t.heap[q]? = s.heap[q]? := by
  intro q hq
  obtain ⟨c', h1, h2, h3, h4⟩ := h.2.2.2.2.2 q (s.heap[q]) (Array.getElem?_eq_getElem hq)
  rw [h1, Array.getElem?_eq_getElem hq]
  have h5 : c'.slots = (s.heap[q]).slots := Array.ext_getElem? (fun i => h4 i (fun z => by cases z))
  rw [h2, h5]
theorem x_stepCatch {e : Env} {U : State} {a : Addr} {f : JFrame} {r : List Frame} {pc : Nat} {vm' : Vm} (hfind : ∀ (Q : Handler → Pre) (E : CtlPost) (d : Bool) (acts : List Action), wp (findHandler f a) Q E e d acts U ↔ Q (.found pc) d acts (U.setVm vm')) :
    (stepThrowing e U a (.java f :: r)).Is ((U.setVm vm').setFrames (.java { f with pc := pc, stack := [.ref a] } :: r)) [] := by
  simp only [stepThrowing, searchFrame, vmDo]
  generalize hr : Sem.go _ e false [] U = res
  obtain ⟨as, rfl, ha⟩ := Sem.eq_ok_of hr (a := Handler.found pc) (s' := U.setVm vm') (acts' := []) (by simp [hfind _ _ _ _])
  exact ⟨rfl, ha⟩
section XR
variable {p : Program} {l : Launch} {e : Env} {R : Room} {s : State} {m : MethodId} {args : Array Value} {below : List Frame} {meth : Method} {c : Code} {H : Heap} {locs : List Loc} {cells slots : Nat} {Q : State → Prop} {g : JFrame}
theorem x_caught {T : State} (X : Stand p l e R s m args below meth c T locs cells slots) {own nm : String} {lo hi hpc ct : Nat} (htab : c.exceptionTable.toList = tableOf [(lo, hi, hpc, ct)]) (hown : s.vm.findClass own = some m.cls) (hlink : (Cond.classLink own ct nm).before args s = true)
    (hg : g.method = m) (hcov : lo ≤ g.pc ∧ g.pc < hi) (h0 : ct ≠ 0) {q : Addr} {ce : Cell} (hcell : T.heap[q]? = some ce) (hobj : ce.vm.isStatics = false) (hcls : s.vm.findClass nm = some ce.cls) :
    ∃ vm', Stand p l e R s m args below meth c (T.setVm vm') locs cells slots ∧ ∀ tg, Steps p.tables e below ((T.setVm vm').setTop { g with pc := hpc, stack := [.ref q] }) tg → Steps p.tables e below ((T.setTop g).pushFrame (.throwing q)) tg := by
  have hpl : e.platform.magicAccessors = ({} : Platform).magicAccessors := by rw [X.admits.platform]
  obtain ⟨c', hc', hcl⟩ := Cond.classLink_spec hown hlink e.platform hpl
  cases hcls.symm.trans hc'
  obtain ⟨dk, _, _, kt, hd, _, _, _, _, hkt, _, hopen⟩ := hcl.here
  have hcl₀ := X.warmed.classLinks hcl
  have hW' : s.WarmedH (T.vm.noted m.cls ct (.cls ce.cls)) := X.warmed.noted hd hopen (State.rightAt_cls hcl)
  obtain ⟨kt', hkt', -⟩ := hW'.alike.2.2 _ _ hkt
  refine ⟨_, X.noted hW', fun tg hrest => ?_⟩
  subst hg
  have hvm : ((T.setTop g).pushFrame (.throwing q)).vm = T.vm := Stand.throwing_vm _ _ _
  have hhp : ((T.setTop g).pushFrame (.throwing q)).heap = T.heap := Stand.throwing_heap _ _ _
  have hfind : ∀ (Q : Handler → Pre) (E : CtlPost) (d : Bool) (acts : List Action), wp (findHandler g q) Q E e d acts ((T.setTop g).pushFrame (.throwing q)) ↔ Q (.found hpc) d acts (((T.setTop g).pushFrame (.throwing q)).setVm (T.vm.noted g.method.cls ct (.cls ce.cls))) := by
    intro Q E d acts
    rw [W.findHandler_eq (meth := meth) (code := c) (by rw [hvm]; exact X.method') X.code, htab]
    show wp (findHandler.go g q (({ startPc := lo, endPc := hi, handlerPc := hpc, catchType := ct } : ExceptionTableEntry) :: [])) Q E e d acts _ ↔ _
    refine x_findCold (x := { startPc := lo, endPc := hi, handlerPc := hpc, catchType := ct }) (cT := ce.cls) (cell := ce) (by simp [covers, hcov]) h0 ?_ hcl₀.ready (by rw [hvm]; no_record) (by rw [hhp]; exact hcell) (fun k => VmData.ne_statics_of hobj k) ⟨kt', hkt'⟩ ⟨kt', hkt'⟩ (va_asg _ _)
    rw [hvm]
    exact resolveClass_links e.toSetting hcl₀
  obtain ⟨hgo, hw⟩ := X.here.throwing q
  refine Steps.head hgo hw ?_
  rw [stepThread_throwing (frames_entered X.here.top _), (x_stepCatch hfind).1]
  obtain ⟨g₀, hg⟩ := Option.isSome_iff_exists.mp X.here.top
  obtain ⟨r, hr⟩ := State.topJava?_eq_some.mp hg
  have hr2 : (T.setVm (T.vm.noted g.method.cls ct (.cls ce.cls))).frames = .java g₀ :: r := hr
  rw [State.setTop_of_frames _ hr2] at hrest
  have e1 : ((((T.setTop g).pushFrame (.throwing q)).setVm (T.vm.noted g.method.cls ct (.cls ce.cls))).setFrames (.java { g with pc := hpc, stack := [.ref q] } :: T.frames.tail)) = (T.setVm (T.vm.noted g.method.cls ct (.cls ce.cls))).setFrames (.java { g with pc := hpc, stack := [.ref q] } :: r) := by
    rw [State.pushFrame, State.setTop_of_frames _ hr, State.setFrames_setFrames, hr]
    have e2 : ∀ (A : State) (f1 : List Frame) (v : Vm), (A.setFrames f1).setVm v = (A.setVm v).setFrames f1 := fun _ _ _ => rfl
    rw [e2, State.setFrames_setFrames]
    rfl
  rw [e1]
  exact hrest
end XR
