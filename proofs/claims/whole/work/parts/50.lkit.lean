/-! THE LAW'S OWN HELPERS: methods with a handler, and their calls -/
def yQ (D : va_G) (cl : List vw_C) (ok : Bool) (ws1 ws2 : va_W) (A : Nat → Prop) : Array Value → State → Outcome → State → Prop := fun _ st o t =>
  va_F A st t ∧ ((ok = true ∧ o = .returned (some (.int 0)) ∧ va_P D cl ws1 t.heap) ∨ (ok = false ∧ o = .returned (some (.int 1)) ∧ va_P D cl ws2 t.heap))
section LK
variable {p : Program} {l : Launch} {e : Env} {R : Room} {s : State} {m : MethodId} {args : Array Value} {below : List Frame} {meth : Method} {c : Code} {H : Heap} {locs : List Loc} {cells slots : Nat} {Q : State → Prop} {g : JFrame}
theorem x_tab {S : Spec} {y : MethodName} {cc : ByteArray} {maxL : Nat} {ret : Option FieldType} {hh : List (Nat × Nat × Nat × Nat)} {s₁ : State} (Bd : BodyLoose p l y S cc maxL ret e s m args below meth c s₁) (h : (Cond.codeWith y cc maxL ret hh).before args s = true) : c.exceptionTable.toList = tableOf hh := by
  have X := Stand.of_body Bd
  obtain ⟨m9, meth', c', hn9, hm', hc', -, -, htb, -⟩ := Cond.codeWith_spec h
  cases Bd.named.symm.trans hn9
  have e1 : meth' = meth := Option.some.inj (hm'.symm.trans X.method)
  subst e1
  have e2 : c' = c := Option.some.inj (hc'.symm.trans X.code)
  subst e2
  rw [← htb, table_eq]
variable {y : MethodName} {bytes cc : ByteArray} {maxL nL mc ms n index : Nat} {ret : Option FieldType} {hh : List (Nat × Nat × Nat × Nat)} {ws : List Cond} {rm : Room} {Pc : Array Value → State → Prop} {Qc : Array Value → State → Outcome → State → Prop} {free : Addr → Prop} {Ts : List Cond} {own : String} {As rest : List Value}
theorem x_runSW (S : CallFix p m c cc nL s args Ts own) (hM : Met l y ws rm Pc Qc mc ms free) (hrc : rm.cells = mc) (hrs : rm.slots = ms) (hR : rm.frames + 1 ≤ R.frames ∧ 8 + (maxL + 11) + rm.locals ≤ R.locals) (hw : ws = Cond.codeWith y bytes maxL ret hh :: lw_good) (hg9 : ∀ w ∈ lw_good, w.before args s = true) (hcw : Cond.codeWith y bytes maxL ret hh ∈ lw_good)
    (hlink : Cond.methodLink own index y ∈ lw_good) (hstat : Cond.static y ∈ lw_good) (hini : Cond.initialized y.cls ∈ lw_good) (hd : y.cls ≠ "java/lang/invoke/MethodHandle" ∧ y.cls ≠ "java/lang/invoke/VarHandle" ∧ (parseMethodDescriptor y.desc).map (fun d => d.parameters.length) = some n) (hp : PreS s H Pc As)
    (hg : g.method = m) (hn : As.length = n) (hsize : g.locals.size = nL) (hstack : g.stack = As.reverse ++ rest) (hW : 2 * g.monitorRoom + (rest.map fun v => v.category).sum ≤ 8) (hdg : decode cc g.pc = .ok (.invokestatic index, 3)) (hf : cells + mc ≤ R.cells ∧ slots + ms ≤ R.slots) :
    va_Run p l e R s m args below meth c H locs cells slots mc ms g rest (Qc As.toArray) free := by
  obtain ⟨hx, hb, hml, ho, -⟩ := S
  have hws : ∀ w ∈ ws, ∀ (a' : Array Value) (U : State), s.WarmedH U.vm → w.before a' U = true := fun w h a' U hWU => by
    rw [hw] at h
    have h2 : w ∈ lw_good := by
      rcases List.mem_cons.mp h with rfl | h
      · exact hcw
      · exact h
    exact word_at hWU (gd_is h2) (hg9 w h2)
  have hK : Back l R p e below s args y 3 8 (PreOf R mc ms Pc) (PostOf Qc mc ms free) :=
    va_backW (hh := hh) (bytes := bytes) (maxL := maxL) (ret := ret) hM hp.1 hrc hrs hR.1 hR.2 hws (by rw [hw]; exact List.mem_cons_self) (fun a' U hWU => word_at hWU (gd_is hini) (hg9 _ hini))
  intro T hT X
  obtain ⟨mk, methM, cM, hnamed, hmethM, hcM, -, -, -, -, -, hsigM⟩ := Cond.codeWith_spec (hg9 _ hcw)
  have hstatic : methM.isStatic = true := Cond.static_spec hnamed hmethM (hg9 _ hstat)
  obtain ⟨kP, hkP, -⟩ := className_of_methodNamed hnamed
  have hinitP : kP.init = .initialized := Cond.initialized_spec (findClass_of_methodNamed hnamed) hkP (hg9 _ hini)
  have hdg' : decode c.code g.pc = .ok (.invokestatic index, 3) := by rw [hb]; exact hdg
  have hlen : As.length = methM.sig.parameters.length := by
    have h2 := hd.2.2
    rw [hsigM] at h2
    exact hn.trans (Option.some.inj h2).symm
  obtain ⟨vm₁, X₁, hstep₁⟩ := X.invokestatic hx ho (hg9 _ hlink) hnamed hmethM hstatic hkP hinitP ⟨hd.1, hd.2.1⟩ (g := g) hg (argsL := As) (rest := rest) hlen hstack hdg'
  obtain ⟨v, B, X', hpost, hsteps⟩ := hK m meth c ⟨T.setVm vm₁, locs, cells, slots⟩ { g with stack := rest } (.invokestatic index) mk As.toArray X₁ hg (hsize.trans hml.symm) hdg' hW (X₁.named hnamed) ⟨hf.1, hf.2, hp.2 (T.setVm vm₁) hT X₁.warmed⟩
  obtain ⟨U', l2, c2, s2⟩ := B
  obtain ⟨g', mk', t, L, e1, e2, hq, h1, hL, h2, h3⟩ := hpost
  dsimp only [Pt.U, Pt.locs, Pt.cells, Pt.slots] at X' e1 e2 h1 h2 h3 hsteps
  subst h1; subst h2; subst h3
  exact ⟨v, (T.setVm vm₁).calling g' mk' As.toArray, t, U', L, hT, X', hL, e1, e2, hq, fun tg hs => hstep₁ _ fun acts => by rw [doInvoke_state]; exact hsteps.trans hs⟩
variable {pc : Nat} {ls : Array Slot} {st0 : List Value} {D : va_G} {cl : List vw_C} {A0 : Nat → Prop} {wsW : va_W} {H0 : Heap}
theorem go_Y {b : Array Value} {wc wc1 wc2 w1 w2 : va_W} {ok : Bool} (isC : List Nat) (hr : va_Run p l e R s m args below meth c H locs cells slots mc ms (F0 m pc ls st0) rest (yQ D cl ok wc1 wc2 (va_A wc H.size) b) (va_A wc H.size))
    (hP : va_P D cl wsW H) (hD : va_D A0 wsW) (hS : va_S A0 H0 H locs) (hA : ∀ q, H0.size ≤ q → A0 q) (hC : isC.map (fun i => wsW[i]?) = wc.map some) (hlen1 : isC.length ≤ wc1.length) (h1 : w_put wsW isC wc1 = w1) (hm1 : w1.map Prod.fst = wsW.map Prod.fst) (hlen2 : isC.length ≤ wc2.length) (h2 : w_put wsW isC wc2 = w2) (hm2 : w2.map Prod.fst = wsW.map Prod.fst)
    (kk : ok = true → ∀ (H1 : Heap) (locs1 : List Loc), va_P D cl w1 H1 → va_D A0 w1 → va_S A0 H0 H1 locs1 → W p l e R s m args below meth c H1 locs1 (cells + mc) (slots + ms) Q (F0 m (pc + 3) ls (.int 0 :: rest)))
    (kx : ok = false → ∀ (H1 : Heap) (locs1 : List Loc), va_P D cl w2 H1 → va_D A0 w2 → va_S A0 H0 H1 locs1 → W p l e R s m args below meth c H1 locs1 (cells + mc) (slots + ms) Q (F0 m (pc + 3) ls (.int 1 :: rest))) : W p l e R s m args below meth c H locs cells slots Q (F0 m pc ls st0) := by
  intro T hT X
  obtain ⟨v', st₀, t, T', L, h0, X', hL, e1, -, ⟨hF, hq⟩, st⟩ := hr T hT X
  obtain ⟨hk, hS1⟩ := put_S isC hD hS hA hC h0 e1 hF hL
  rcases hq with ⟨hok, hv, hPt⟩ | ⟨hok, hv, hPt⟩
  · cases hv
    obtain ⟨t2, a1, b1⟩ := kk hok T'.heap (locs ++ L) (put_P isC hP hD hC hlen1 h1 (by rw [e1]; exact hPt) hk) (hD.of_map hm1) hS1 T' rfl X'
    exact ⟨t2, st t2 a1, b1⟩
  · cases hv
    obtain ⟨t2, a1, b1⟩ := kx hok T'.heap (locs ++ L) (put_P isC hP hD hC hlen2 h2 (by rw [e1]; exact hPt) hk) (hD.of_map hm2) hS1 T' rfl X'
    exact ⟨t2, st t2 a1, b1⟩
end LK
