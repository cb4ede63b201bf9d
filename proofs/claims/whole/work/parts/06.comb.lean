/-! COMBINATORS: two standard forms of a contract (a reader, a writer), their calls; arrays read and written at a Nat place -/
def bI (b : Bool) : Int32 := if b then 1 else 0
theorem bI_eq0 {b : Bool} (h : bI b = 0) : b = false := by
  cases b
  · rfl
  · exact absurd h (by decide)
theorem bI_ne0 {b : Bool} (h : ¬ bI b = 0) : b = true := by
  cases b
  · exact absurd rfl h
  · rfl
theorem bI_nar (b : Bool) : narrow .boolean (.int (bI b)) = .int (bI b) := by cases b <;> rfl
theorem bI_1 {b : Bool} (h : b = true) : (1 : Int32) = bI b := by rw [h]; rfl
theorem bI_0 {b : Bool} (h : b = false) : (0 : Int32) = bI b := by rw [h]; rfl
theorem na_lt {a b : Nat} (h : nI a < nI b) (ha : a < 2 ^ 31) (hb : b < 2 ^ 31) : a < b := (nI_ltI ha hb).mp h
theorem na_nlt {a b : Nat} (h : ¬ nI a < nI b) (ha : a < 2 ^ 31) (hb : b < 2 ^ 31) : ¬ a < b := fun z => h ((nI_ltI ha hb).mpr z)
theorem na_le {a b : Nat} (h : nI a ≤ nI b) (ha : a < 2 ^ 31) (hb : b < 2 ^ 31) : ¬ b < a := Nat.not_lt.mpr ((nI_leI ha hb).mp h)
theorem na_nle {a b : Nat} (h : ¬ nI a ≤ nI b) (ha : a < 2 ^ 31) (hb : b < 2 ^ 31) : b < a := Nat.lt_of_not_le (fun z => h ((nI_leI ha hb).mpr z))
theorem na_eq {a b : Nat} (h : nI a = nI b) (ha : a < 2 ^ 31) (hb : b < 2 ^ 31) : a = b := (nI_eq ha hb).mp h
theorem na_ne {a b : Nat} (h : ¬ nI a = nI b) (ha : a < 2 ^ 31) (hb : b < 2 ^ 31) : ¬ a = b := fun z => h ((nI_eq ha hb).mpr z)
theorem va_S.mono {A B : Nat → Prop} {H0 H : Heap} {locs : List Loc} (h : va_S A H0 H locs) (hAB : ∀ q, A q → B q) : va_S B H0 H locs :=
  ⟨h.1, fun q h1 h2 => h.2.1 q h1 (fun z => h2 (hAB q z)), fun l hl => hAB _ (h.2.2 l hl)⟩
theorem va_A.ge {ws : va_W} {sz B : Nat} (hD : va_D (fun q => B ≤ q) ws) (hB : B ≤ sz) : ∀ q, va_A ws sz q → B ≤ q := by
  intro q h
  rcases h with ⟨k, e, h⟩ | h
  · exact hD.2 k (q, e) h
  · exact Nat.le_trans hB h
theorem va_D.of_map {A : Nat → Prop} {ws w2 : va_W} (hD : va_D A ws) (hm : w2.map Prod.fst = ws.map Prod.fst) : va_D A w2 := by
  have at' : ∀ (k : Nat) (q : Nat × va_E), w2[k]? = some q → ∃ q', ws[k]? = some q' ∧ q'.1 = q.1 := by
    intro k q hq
    have h1 : (w2.map Prod.fst)[k]? = some q.1 := by rw [List.getElem?_map, hq]; rfl
    rw [hm, List.getElem?_map] at h1
    cases h2 : ws[k]? with
    | none => rw [h2] at h1; cases h1
    | some q' => rw [h2] at h1; exact ⟨q', rfl, Option.some.inj h1⟩
  refine ⟨fun i j x y hx hy hxy => ?_, fun k q hq => ?_⟩
  · obtain ⟨x', hx', ex⟩ := at' i x hx
    obtain ⟨y', hy', ey⟩ := at' j y hy
    exact hD.1 i j x' y' hx' hy' (by rw [ex, ey, hxy])
  · obtain ⟨q', hq', eq⟩ := at' k q hq
    rw [← eq]
    exact hD.2 k q' hq'
/-- the cells at the places is, replaced -/
def w_put : va_W → List Nat → va_W → va_W
  | ws, i :: is, q :: qs => w_put (ws.set i q) is qs
  | ws, _, _ => ws
theorem w_put_get : ∀ (is : List Nat) (qs ws : va_W) (k : Nat) (x : Nat × va_E), (w_put ws is qs)[k]? = some x → (∃ j : Nat, qs[j]? = some x) ∨ (k ∉ is ∧ ws[k]? = some x) ∨ (qs.length < is.length) := by
  intro is
  induction is with
  | nil =>
    intro qs ws k x h
    refine Or.inr (Or.inl ⟨List.not_mem_nil, ?_⟩)
    cases qs <;> exact h
  | cons i is ih =>
    intro qs ws k x h
    cases qs with
    | nil => exact Or.inr (Or.inr (by simp))
    | cons q qs =>
      rcases ih qs (ws.set i q) k x h with ⟨j, hj⟩ | ⟨hk, hx⟩ | hlen
      · exact Or.inl ⟨j + 1, hj⟩
      · by_cases hki : i = k
        · subst hki
          rw [List.getElem?_set] at hx
          simp only [if_true] at hx
          split at hx
          · exact Or.inl ⟨0, hx⟩
          · cases hx
        · rw [List.getElem?_set, if_neg hki] at hx
          exact Or.inr (Or.inl ⟨fun z => by rcases List.mem_cons.mp z with z | z; exact hki z.symm; exact hk z, hx⟩)
      · exact Or.inr (Or.inr (by simp only [List.length_cons]; omega))
section CO
variable {p : Program} {l : Launch} {e : Env} {R : Room} {s : State} {m : MethodId} {args : Array Value} {below : List Frame} {meth : Method} {c : Code} {H : Heap} {locs : List Loc} {cells slots : Nat} {Q : State → Prop}
variable {cc : ByteArray} {pc : Nat} {ls : Array Slot} {rest st0 : List Value} {D : va_G} {cl : List vw_C} {A A0 : Nat → Prop} {a : Nat} {tys : List (ClassId × FieldType)} {ws : va_W} {H0 : Heap}
/-- a reader's start -/
def q_Rd (D : va_G) (cl : List vw_C) (av : List Value) (ws : va_W) (tys : List (ClassId × FieldType)) (B : Nat) : Array Value → State → Prop := fun v U => v = av.toArray ∧ va_P D cl ws U.heap ∧ va_K D cl tys U ∧ st_B B U U.heap
theorem q_Rd.blind {av : List Value} {B : Nat} : FrameBlind (q_Rd D cl av ws tys B) := fun a U g mk h => ⟨h.1, h.2.1, va_K.moved (u := U) (U := U.calling g mk a) (Vm.Alike.refl U.vm) h.2.2.1, st_B.same (u := U) (U := U.calling g mk a) rfl h.2.2.2⟩
theorem pre_RV {b : Addr} {As : List Value} {B : Nat} {C : String} (hrecv : ∃ cellB : Cell, H[b]? = some cellB ∧ cellB.vm.isStatics = false ∧ s.vm.findClass C = some cellB.cls) (hP : va_P D cl ws H) (hK : va_K D cl tys s) (hT : st_B B s H) : PreV s H C b (q_Rd D cl (.ref b :: As) ws tys B) As :=
  ⟨q_Rd.blind, hrecv, fun U hU hW => ⟨rfl, by rw [hU]; exact hP, va_K.moved hW.alike hK, by rw [hU]; exact st_B.warm hW hT⟩⟩
theorem pre_RS {As : List Value} {B : Nat} (hP : va_P D cl ws H) (hK : va_K D cl tys s) (hT : st_B B s H) : PreS s H (q_Rd D cl As ws tys B) As :=
  ⟨q_Rd.blind, fun U hU hW => ⟨rfl, by rw [hU]; exact hP, va_K.moved hW.alike hK, by rw [hU]; exact st_B.warm hW hT⟩⟩
/-- a writer's start and end: its cells at the same places, with other contents -/
def q_Mp (D : va_G) (cl : List vw_C) (av : List Value) (ws : va_W) (tys : List (ClassId × FieldType)) (B sz : Nat) : Array Value → State → Prop := fun v U => v = av.toArray ∧ U.heap.size = sz ∧ B ≤ sz ∧ va_P D cl ws U.heap ∧ va_K D cl tys U ∧ va_D (fun q => B ≤ q) ws ∧ st_B B U U.heap
def q_Mq (D : va_G) (cl : List vw_C) (ws' : va_W) (A : Nat → Prop) (r : Option Value) : Array Value → State → Outcome → State → Prop := fun _ st o t => o = .returned r ∧ va_P D cl ws' t.heap ∧ va_F A st t
theorem q_Mp.blind {av : List Value} {B sz : Nat} : FrameBlind (q_Mp D cl av ws tys B sz) := fun a U g mk h => ⟨h.1, h.2.1, h.2.2.1, h.2.2.2.1, va_K.moved (u := U) (U := U.calling g mk a) (Vm.Alike.refl U.vm) h.2.2.2.2.1, h.2.2.2.2.2.1, st_B.same (u := U) (U := U.calling g mk a) rfl h.2.2.2.2.2.2⟩
theorem pre_MV {b : Addr} {As : List Value} {B : Nat} {C : String} (hrecv : ∃ cellB : Cell, H[b]? = some cellB ∧ cellB.vm.isStatics = false ∧ s.vm.findClass C = some cellB.cls) (hB : B ≤ H.size) (hP : va_P D cl ws H) (hK : va_K D cl tys s) (hD : va_D (fun q => B ≤ q) ws) (hT : st_B B s H) : PreV s H C b (q_Mp D cl (.ref b :: As) ws tys B H.size) As :=
  ⟨q_Mp.blind, hrecv, fun U hU hW => ⟨rfl, by rw [hU], hB, by rw [hU]; exact hP, va_K.moved hW.alike hK, hD, by rw [hU]; exact st_B.warm hW hT⟩⟩
theorem pre_MS {As : List Value} {B : Nat} (hB : B ≤ H.size) (hP : va_P D cl ws H) (hK : va_K D cl tys s) (hD : va_D (fun q => B ≤ q) ws) (hT : st_B B s H) : PreS s H (q_Mp D cl As ws tys B H.size) As :=
  ⟨q_Mp.blind, fun U hU hW => ⟨rfl, by rw [hU], hB, by rw [hU]; exact hP, va_K.moved hW.alike hK, hD, by rw [hU]; exact st_B.warm hW hT⟩⟩
/-- behind a reader's call -/
theorem go_R {b : Array Value} {r : Int32} (hr : va_Run p l e R s m args below meth c H locs cells slots 0 0 (F0 m pc ls st0) rest (QcRead r b) (fun _ => False)) (kk : W p l e R s m args below meth c H locs cells slots Q (F0 m (pc + 3) ls (.int r :: rest))) : W p l e R s m args below meth c H locs cells slots Q (F0 m pc ls st0) :=
  W.callR hr.run kk
theorem go_RV {b : Array Value} {v : Value} (hr : va_Run p l e R s m args below meth c H locs cells slots 0 0 (F0 m pc ls st0) rest (k2_QcV v b) (fun _ => False)) (kk : W p l e R s m args below meth c H locs cells slots Q (F0 m (pc + 3) ls (v :: rest))) : W p l e R s m args below meth c H locs cells slots Q (F0 m pc ls st0) := by
  intro T hT X
  obtain ⟨v', st₀, t, T', L, h0, X', hL, e1, -, ⟨hv, hh⟩, st⟩ := hr T hT X
  cases hv
  obtain ⟨t2, a1, b1⟩ := kk T' (by rw [e1, hh, h0]) (Stand.forget X' (fun q h => (hL q h).elim))
  exact ⟨t2, st t2 a1, b1⟩
/-- the caller's world behind a writer's work on the cells at the places isC -/
theorem put_P {H1 : Heap} {wc wc' w2 : va_W} (isC : List Nat) (hP : va_P D cl ws H) (hD : va_D A0 ws) (hC : isC.map (fun i => ws[i]?) = wc.map some) (hlen : isC.length ≤ wc'.length) (h2 : w_put ws isC wc' = w2) (hPt : va_P D cl wc' H1) (hk : ∀ q : Nat, q < H.size → ¬ va_A wc H.size q → H1[q]? = H[q]?) : va_P D cl w2 H1 := by
  have atC : ∀ (k : Nat) (q : Nat × va_E), wc[k]? = some q → ∃ i, isC[k]? = some i ∧ ws[i]? = some q := by
    intro k q hq
    have h1 : (isC.map (fun i => ws[i]?))[k]? = some (some q) := by rw [hC, List.getElem?_map, hq]; rfl
    rw [List.getElem?_map] at h1
    cases hi : isC[k]? with
    | none => rw [hi] at h1; cases h1
    | some i => rw [hi] at h1; exact ⟨i, rfl, Option.some.inj h1⟩
  intro k x hx
  rw [← h2] at hx
  rcases w_put_get isC wc' ws k x hx with ⟨j, hj⟩ | ⟨hki, hxw⟩ | hl
  · exact hPt j x hj
  · have hlt := (hP k x hxw).lt
    refine (hP k x hxw).kept ?_
    refine hk x.1 hlt (fun z => ?_)
    rcases z with ⟨k2, e2, h⟩ | h
    · obtain ⟨i, h3, h4⟩ := atC k2 (x.1, e2) h
      have hik := hD.1 k i x (x.1, e2) hxw h4 rfl
      subst hik
      exact hki (List.mem_of_getElem? h3)
    · omega
  · omega
theorem put_S {st t T' : State} {L : List Loc} {wc : va_W} (isC : List Nat) (hD : va_D A0 ws) (hS : va_S A0 H0 H locs) (hA : ∀ q, H0.size ≤ q → A0 q) (hC : isC.map (fun i => ws[i]?) = wc.map some) (h0 : st.heap = H) (e1 : T'.heap = t.heap) (hF : va_F (va_A wc H.size) st t) (hL : ∀ q ∈ L, va_A wc H.size q.base) : (∀ q : Nat, q < H.size → ¬ va_A wc H.size q → T'.heap[q]? = H[q]?) ∧ va_S A0 H0 T'.heap (locs ++ L) := by
  have hFc : ∀ q, va_A wc H.size q → A0 q := va_free hD hS hA isC hC
  obtain ⟨hz, hk⟩ := hF
  rw [h0] at hz hk
  refine ⟨fun q h1 h2 => by rw [e1]; exact hk q h1 h2, Nat.le_trans hS.1 (by rw [e1]; exact hz), fun q h1 h2 => by rw [e1, hk q (Nat.lt_of_lt_of_le h1 hS.1) (fun z => h2 (hFc q z))]; exact hS.2.1 q h1 h2, fun q hq => ?_⟩
  rcases List.mem_append.mp hq with h | h
  · exact hS.2.2 q h
  · exact hFc _ (hL q h)
/-- behind a writer's call -/
theorem go_M {mc ms : Nat} {b : Array Value} {wc wc' w2 : va_W} {r : Option Value} (isC : List Nat) (hr : va_Run p l e R s m args below meth c H locs cells slots mc ms (F0 m pc ls st0) rest (q_Mq D cl wc' (va_A wc H.size) r b) (va_A wc H.size))
    (hP : va_P D cl ws H) (hD : va_D A0 ws) (hS : va_S A0 H0 H locs) (hA : ∀ q, H0.size ≤ q → A0 q) (hC : isC.map (fun i => ws[i]?) = wc.map some) (hlen : isC.length ≤ wc'.length) (h2 : w_put ws isC wc' = w2) (hm : w2.map Prod.fst = ws.map Prod.fst)
    (kk : ∀ (H1 : Heap) (locs1 : List Loc), va_P D cl w2 H1 → va_D A0 w2 → va_S A0 H0 H1 locs1 → W p l e R s m args below meth c H1 locs1 (cells + mc) (slots + ms) Q (F0 m (pc + 3) ls (r.toList ++ rest))) : W p l e R s m args below meth c H locs cells slots Q (F0 m pc ls st0) := by
  intro T hT X
  obtain ⟨v', st₀, t, T', L, h0, X', hL, e1, -, ⟨hv, hPt, hF⟩, st⟩ := hr T hT X
  cases hv
  obtain ⟨hk, hS1⟩ := put_S isC hD hS hA hC h0 e1 hF hL
  obtain ⟨t2, a1, b1⟩ := kk T'.heap (locs ++ L) (put_P isC hP hD hC hlen h2 (by rw [e1]; exact hPt) hk) (hD.of_map hm) hS1 T' rfl X'
  exact ⟨t2, st t2 a1, b1⟩
/-- arrays at a Nat place -/
theorem x_iald (hexec : p.tables.exec = Jvm.exec) (hb : c.code = cc) (hK : va_K D cl tys s) (hP : va_P D cl ws H) (q0 t0 : Nat) {cA : ClassId} {n : Nat} {f : Nat → Int32} (ha : ws[q0]? = some (a, .inl (cA, n, .inl f))) (ht : tys[t0]? = some (cA, .int)) {k : Nat} (hk : k < n) (hn : n < 2 ^ 31) (hdg : decode cc pc = .ok (.iaload, 1))
    (kk : W p l e R s m args below meth c H locs cells slots Q (F0 m (pc + 1) ls (.int (f k) :: rest))) : W p l e R s m args below meth c H locs cells slots Q (F0 m pc ls (.int (nI k) :: .ref a :: rest)) :=
  va_iald hexec hb hK hP q0 t0 ha ht (vp_in_nI hk hn) hdg (by rw [nI_clamp (Nat.lt_trans hk hn)]; exact kk)
theorem x_cald (hexec : p.tables.exec = Jvm.exec) (hb : c.code = cc) (hK : va_K D cl tys s) (hP : va_P D cl ws H) (q0 t0 : Nat) {cA : ClassId} {n : Nat} {f : Nat → Int32} (ha : ws[q0]? = some (a, .inl (cA, n, .inl f))) (ht : tys[t0]? = some (cA, .char)) {k : Nat} (hk : k < n) (hn : n < 2 ^ 31) (hdg : decode cc pc = .ok (.caload, 1))
    (kk : W p l e R s m args below meth c H locs cells slots Q (F0 m (pc + 1) ls (.int (f k) :: rest))) : W p l e R s m args below meth c H locs cells slots Q (F0 m pc ls (.int (nI k) :: .ref a :: rest)) :=
  va_cald hexec hb hK hP q0 t0 ha ht (vp_in_nI hk hn) hdg (by rw [nI_clamp (Nat.lt_trans hk hn)]; exact kk)
theorem x_iast (hexec : p.tables.exec = Jvm.exec) (hb : c.code = cc) (hK : va_K D cl tys s) (hP : va_P D cl ws H) (hD : va_D A ws) (hS : va_S A H0 H locs) (q0 t0 : Nat) {cA : ClassId} {n : Nat} {f : Nat → Int32} (ha : ws[q0]? = some (a, .inl (cA, n, .inl f))) (ht : tys[t0]? = some (cA, .int)) {k : Nat} {x : Int32} (hk : k < n) (hn : n < 2 ^ 31) (hdg : decode cc pc = .ok (.iastore, 1))
    (kk : ∀ (H1 : Heap) (locs1 : List Loc), va_P D cl (ws.set q0 (a, .inl (cA, n, .inl (upd f k x)))) H1 → va_D A (ws.set q0 (a, .inl (cA, n, .inl (upd f k x)))) → va_S A H0 H1 locs1 → W p l e R s m args below meth c H1 locs1 cells slots Q (F0 m (pc + 1) ls rest)) : W p l e R s m args below meth c H locs cells slots Q (F0 m pc ls (.int x :: .int (nI k) :: .ref a :: rest)) :=
  va_iast hexec hb hK hP hD hS q0 t0 ha ht (vp_in_nI hk hn) hdg (by rw [nI_clamp (Nat.lt_trans hk hn)]; exact kk)
theorem x_cast (hexec : p.tables.exec = Jvm.exec) (hb : c.code = cc) (hK : va_K D cl tys s) (hP : va_P D cl ws H) (hD : va_D A ws) (hS : va_S A H0 H locs) (q0 t0 : Nat) {cA : ClassId} {n : Nat} {f : Nat → Int32} (ha : ws[q0]? = some (a, .inl (cA, n, .inl f))) (ht : tys[t0]? = some (cA, .char)) {k : Nat} {x v : Int32} (hv : vp_nar .char x = v) (hk : k < n) (hn : n < 2 ^ 31) (hdg : decode cc pc = .ok (.castore, 1))
    (kk : ∀ (H1 : Heap) (locs1 : List Loc), va_P D cl (ws.set q0 (a, .inl (cA, n, .inl (upd f k v)))) H1 → va_D A (ws.set q0 (a, .inl (cA, n, .inl (upd f k v)))) → va_S A H0 H1 locs1 → W p l e R s m args below meth c H1 locs1 cells slots Q (F0 m (pc + 1) ls rest)) : W p l e R s m args below meth c H locs cells slots Q (F0 m pc ls (.int x :: .int (nI k) :: .ref a :: rest)) := by
  subst hv
  exact va_cast hexec hb hK hP hD hS q0 t0 ha ht (vp_in_nI hk hn) hdg (by rw [nI_clamp (Nat.lt_trans hk hn)]; exact kk)
/-- the same contents up to the length are the same array -/
theorem va_P.congrA {q0 : Nat} {cA : ClassId} {n : Nat} {f g : Nat → Int32} (hP : va_P D cl ws H) (ha : ws[q0]? = some (a, .inl (cA, n, .inl f))) (hfg : ∀ j, j < n → f j = g j) : va_P D cl (ws.set q0 (a, .inl (cA, n, .inl g))) H := by
  intro k x hx
  by_cases hk : q0 = k
  · subst hk
    have hlt : q0 < ws.length := (List.getElem?_eq_some_iff.mp ha).1
    rw [List.getElem?_set, if_pos rfl, if_pos hlt] at hx
    cases Option.some.inj hx
    have h1 : H[a]? = some (vp_cell cA (n, .inl f)) := hP q0 _ ha
    show H[a]? = some (vp_cell cA (n, .inl g))
    rw [h1, vp_cell_i, vp_cell_i]
    refine congrArg some ?_
    unfold arrV
    refine congrArg (fun z => ({ cls := cA, slots := z, vm := .none } : Cell)) ?_
    refine congrArg Array.ofFn ?_
    funext j
    show Value.int (f j.val) = Value.int (g j.val)
    rw [hfg j.val j.isLt]
  · rw [List.getElem?_set, if_neg hk] at hx
    exact hP k x hx
end CO
