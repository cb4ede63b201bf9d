/-! MIRRORS of the methods that may throw; the start of such a method -/
def k_piece (ks ns us : Nat → Int32) (sz : Nat) (i w : Int32) : Bool × Int32 :=
  if i < 0 then (false, 0) else if i < nI sz then (if w < 0 then (false, 0) else if w < nI (2 + k_nK (k_get ks sz i)) then (if w = 0 then (true, k_get ks sz i) else if w = 1 then (true, k_get ns sz i) else (true, k_num us sz i (w - 2))) else (false, 0)) else (false, 0)
def k_at (ot : Nat → Int32) (ol : Nat) (i : Int32) : Bool × Int32 := if i < 0 then (false, 0) else if i < nI ol then (true, k_get ot ol i) else (false, 0)
def k_reach (ks us : Nat → Int32) (sz : Nat) (dp : Nat → Int32) (way fr to : Int32) : Bool × Int32 × (Nat → Int32) :=
  if way = 0 ∨ way = 1 then (if k_isPoint fr = true then (if k_isPoint to = true then (true, (if k_depthAt (k_spread ks us sz (if way = 0 then 0 else 4) fr dp) to ≤ 0 then 0 else 1), k_spread ks us sz (if way = 0 then 0 else 4) fr dp) else (false, 0, dp)) else (false, 0, dp)) else (false, 0, dp)
def k_deep (ks us : Nat → Int32) (sz : Nat) (dp : Nat → Int32) (fr to : Int32) : Bool × Int32 × (Nat → Int32) :=
  if k_isPoint fr = true then (if k_isPoint to = true then (true, k_depthAt (k_spread ks us sz 0 fr dp) to, k_spread ks us sz 0 fr dp) else (false, 0, dp)) else (false, 0, dp)
def k_readX (sg : Nat → Int32) (len : Nat) (ksd nsd usd dp en : Nat → Int32) (bn : Nat) (ot : Nat → Int32) (ol : Nat) : Bool × (Nat → Int32) × (Nat → Int32) × (Nat → Int32) × Nat × Nat × Int32 × Int32 × (Nat → Int32) × (Nat → Int32) × Nat × (Nat → Int32) × Nat :=
  match k_readAll sg len ksd nsd usd with
  | (true, ks1, ns1, us1, sz1, pl1, fn1, fp1) => (match k_judgeAll ks1 us1 sz1 dp en with | (dp1, en1, bn1) => (match k_write ks1 ns1 us1 sz1 ot with | (ot1, ol1) => (true, ks1, ns1, us1, sz1, pl1, fn1, fp1, dp1, en1, bn1, ot1, ol1)))
  | (false, ks1, ns1, us1, sz1, pl1, fn1, fp1) => (false, ks1, ns1, us1, sz1, pl1, fn1, fp1, dp, en, bn, ot, ol)
section XP
variable {s : State} {H : Heap} {D : va_G} {cl : List vw_C} {tys : List (ClassId × FieldType)} {ws : va_W}
def q_Xp (D : va_G) (cl : List vw_C) (av : List Value) (ws : va_W) (tys : List (ClassId × FieldType)) (B sz : Nat) : Array Value → State → Prop := fun v U => q_Mp D cl av ws tys B sz v U ∧ st_X B U U.heap
theorem q_Xp.blind {av : List Value} {B sz : Nat} : FrameBlind (q_Xp D cl av ws tys B sz) := fun a U g mk h => ⟨q_Mp.blind a U g mk h.1, st_X.same (u := U) (U := U.calling g mk a) rfl h.2⟩
theorem pre_XV {b : Addr} {As : List Value} {B : Nat} {C : String} (hrecv : ∃ cellB : Cell, H[b]? = some cellB ∧ cellB.vm.isStatics = false ∧ s.vm.findClass C = some cellB.cls) (hB : B ≤ H.size) (hP : va_P D cl ws H) (hK : va_K D cl tys s) (hD : va_D (fun q => B ≤ q) ws) (hT : st_B B s H) (hX : st_X B s H) : PreV s H C b (q_Xp D cl (.ref b :: As) ws tys B H.size) As :=
  ⟨q_Xp.blind, hrecv, fun U hU hW => ⟨⟨rfl, by rw [hU], hB, by rw [hU]; exact hP, va_K.moved hW.alike hK, hD, by rw [hU]; exact st_B.warm hW hT⟩, by rw [hU]; exact hX.warm hW⟩⟩
theorem pre_XS {As : List Value} {B : Nat} (hB : B ≤ H.size) (hP : va_P D cl ws H) (hK : va_K D cl tys s) (hD : va_D (fun q => B ≤ q) ws) (hT : st_B B s H) (hX : st_X B s H) : PreS s H (q_Xp D cl As ws tys B H.size) As :=
  ⟨q_Xp.blind, fun U hU hW => ⟨⟨rfl, by rw [hU], hB, by rw [hU]; exact hP, va_K.moved hW.alike hK, hD, by rw [hU]; exact st_B.warm hW hT⟩, by rw [hU]; exact hX.warm hW⟩⟩
end XP
theorem k_rows_ok (sg : Nat → Int32) (len : Nat) : ∀ (n row : Nat) (right : Bool) (ks ns us : Nat → Int32) (sz pl : Nat) (fn fp : Int32), 51 - row ≤ n → sz ≤ 50 → pl ≤ len → (k_rows sg len row right ks ns us sz pl fn fp).2.2.2.2.1 ≤ 50 ∧ (k_rows sg len row right ks ns us sz pl fn fp).2.2.2.2.2.1 ≤ len := by
  intro n
  induction n with
  | zero =>
    intro row right ks ns us sz pl fn fp h h1 h2
    rw [k_rows, if_pos (by omega)]
    exact ⟨h1, h2⟩
  | succ n ih =>
    intro row right ks ns us sz pl fn fp h h1 h2
    rw [k_rows]
    split
    · exact ⟨h1, h2⟩
    · split
      · exact ⟨h1, h2⟩
      · split
        · have h3 := k_readRow_ok sg len ks ns us sz pl fn fp h1 h2
          generalize k_readRow sg len ks ns us sz pl fn fp = z at h3
          obtain ⟨b, ks1, ns1, us1, sz1, pl1, fn1, fp1⟩ := z
          exact ih (row + 1) b ks1 ns1 us1 sz1 pl1 fn1 fp1 (by omega) h3.1 h3.2
        · exact ⟨h1, h2⟩
theorem k_readAll_ok (sg : Nat → Int32) (len : Nat) (ks ns us : Nat → Int32) : (k_readAll sg len ks ns us).2.2.2.2.1 ≤ 50 ∧ (k_readAll sg len ks ns us).2.2.2.2.2.1 ≤ len :=
  k_rows_ok sg len 51 0 true ks ns us 0 0 0 (-1) (by omega) (by omega) (by omega)
theorem k_reasons_le (ks us : Nat → Int32) (sz : Nat) (dp : Nat → Int32) : ∀ (n reason : Nat) (en : Nat → Int32) (bn : Nat), 4 - reason ≤ n → bn ≤ 100 → (k_reasons ks us sz dp reason en bn).2 ≤ 100 := by
  intro n
  induction n with
  | zero =>
    intro reason en bn h h1
    rw [k_reasons, if_neg (by omega)]
    exact h1
  | succ n ih =>
    intro reason en bn h h1
    rw [k_reasons]
    split
    · have h2 := k_addAll_le ks us sz dp reason 0 en bn h1
      generalize k_addAll ks us sz dp reason 0 en bn = z at h2
      obtain ⟨en1, bn1⟩ := z
      exact ih (reason + 1) en1 bn1 (by omega) h2
    · exact h1
theorem k_judgeAll_le (ks us : Nat → Int32) (sz : Nat) (dp en : Nat → Int32) : (k_judgeAll ks us sz dp en).2.2 ≤ 100 := k_reasons_le ks us sz _ 4 0 en 0 (by omega) (by omega)
