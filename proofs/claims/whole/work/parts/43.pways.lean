/-! WAYS: how deep each point is reached -/
theorem rows0 {ks ns us td : Nat → Int32} {n : Nat} (h : rowsAt ks ns us n td 0) {k : Nat} (hk : k < n) : td (6 * k) = ks k ∧ td (6 * k + 1) = ns k ∧ ∀ w, w < 4 → td (6 * k + 2 + w) = if w < k_nK (ks k) then us (4 * k + w) else 0 := by
  have := h k hk
  simpa using this
theorem row_n {ks ns us td : Nat → Int32} {n : Nat} (h : rowsAt ks ns us n td 0) {k w : Nat} (hk : k < n) (hw : w < k_nK (ks k)) : td (6 * k + 2 + w) = us (4 * k + w) := by
  rw [(rows0 h hk).2.2 w (by have := k_nK_le (ks k); omega), if_pos hw]
theorem nK_0 : k_nK 0 = 4 := by decide
theorem nK_1 : k_nK 1 = 4 := by decide
theorem nK_2 : k_nK 2 = 4 := by decide
theorem nK_4 : k_nK 4 = 2 := by decide
theorem nK_pos {ks ns us : Nat → Int32} {n k : Nat} (h : goodAt ks ns us n) (hk : k < n) : 0 < k_nK (ks k) := by
  obtain ⟨⟨a, ha, e⟩, -⟩ := h k hk
  rw [e]
  exact (nK_sim a ha).2.1
theorem pt_of {ks ns us : Nat → Int32} {n k w : Nat} (h : goodAt ks ns us n) (hk : k < n) (hw : w < k_nK (ks k)) (hp : w = 0 ∨ (w = 1 ∧ (ks k = 0 ∨ ks k = 4))) : ∃ c, c < 16 ∧ us (4 * k + w) = nI c := by
  obtain ⟨⟨a, ha, e⟩, -, h3⟩ := h k hk
  obtain ⟨c, hc, e2, hr⟩ := h3 w hw
  rw [e] at hr hw
  refine ⟨c, range_pt ha hw hc hr ?_, e2⟩
  rcases hp with z | ⟨z, z2⟩
  · exact Or.inl z
  · refine Or.inr ⟨z, ?_⟩
    rw [e] at z2
    rcases z2 with z2 | z2
    · exact Or.inl ((nI_eq (a := a) (b := 0) (by omega) (by decide)).mp z2)
    · exact Or.inr ((nI_eq (a := a) (b := 4) (by omega) (by decide)).mp z2)
def eq16 (f g : Nat → Int32) : Prop := ∀ j, j < 16 → f j = g j
def nn16 (f : Nat → Int32) : Prop := ∀ j, j < 16 → 0 ≤ f j
def mn (x y : Int32) : Int32 := if y < x then y else x
theorem mn_l (x y : Int32) : mn x y ≤ x := by
  unfold mn
  split
  · rename_i h
    rw [Int32.lt_iff_toInt_lt] at h
    rw [Int32.le_iff_toInt_le]
    omega
  · rw [Int32.le_iff_toInt_le]
    omega
theorem mn_r (x y : Int32) : mn x y ≤ y := by
  unfold mn
  split
  · rw [Int32.le_iff_toInt_le]
    omega
  · rename_i h
    rw [Int32.lt_iff_toInt_lt] at h
    rw [Int32.le_iff_toInt_le]
    omega
theorem i32_le_antisymm {x y : Int32} (h1 : x ≤ y) (h2 : y ≤ x) : x = y := by
  rw [Int32.le_iff_toInt_le] at h1 h2
  exact Int32.toInt_inj.mp (by omega)
theorem i32_nle {x y : Int32} : ¬ x ≤ y ↔ y < x := by
  rw [Int32.le_iff_toInt_le, Int32.lt_iff_toInt_lt]
  omega
theorem less_mn (x y : Int32) : m_less x y = mn x y := by
  unfold m_less mn
  by_cases h1 : y < x
  · rw [if_pos h1, if_pos (by rw [Int32.lt_iff_toInt_lt] at h1; rw [Int32.le_iff_toInt_le]; omega)]
  · rw [if_neg h1]
    split
    · rename_i h2
      exact i32_le_antisymm h2 (by rw [Int32.lt_iff_toInt_lt] at h1; rw [Int32.le_iff_toInt_le]; omega)
    · rfl
theorem up_at (dp : Nat → Int32) (b : Nat) (x : Int32) (j : Nat) : m_up dp b x j = if j = b ∧ dp b < x then x else dp j := by
  unfold m_up
  by_cases h : x ≤ dp b
  · rw [if_pos h, if_neg (fun z => absurd h (i32_nle.mpr z.2))]
    by_cases hj : j = b
    · rw [hj, pk_us]
    · exact pk_un hj
  · rw [if_neg h]
    by_cases hj : j = b
    · rw [hj, pk_us, if_pos ⟨rfl, i32_nle.mp h⟩]
    · rw [pk_un hj, if_neg (fun z => hj z.1)]
theorem isPoint_nI {a : Nat} (h : a < 16) : k_isPoint (nI a) = true := by
  unfold k_isPoint
  rw [if_neg (nI_pos (by omega)), if_neg (show ¬ (16 : Int32) ≤ nI a from nI_ge (a := a) (b := 16) h (by decide))]
theorem deepen_at (dp : Nat → Int32) {a b : Nat} (ha : a < 16) (hb : b < 16) (d : Int32) : k_deepen dp (nI a) (nI b) d = if dp b < mn (dp a) d then (true, upd dp b (mn (dp a) d)) else (false, dp) := by
  unfold k_deepen
  rw [if_pos (isPoint_nI ha), if_pos (isPoint_nI hb), nI_clamp (by omega), nI_clamp (by omega)]
  rfl
theorem chan_sim (dp dp' : Nat → Int32) {a b : Nat} (ha : a < 16) (hb : b < 16) (d : Int32) (he : eq16 dp dp') (hn : nn16 dp) :
    eq16 (match k_deepen dp (nI a) (nI b) d with | (true, dp1) => (true, dp1) | (false, dp1) => k_deepen dp1 (nI b) (nI a) d).2 (m_up (m_up dp' b (m_less (dp' a) d)) a (m_less (m_up dp' b (m_less (dp' a) d) b) d)) ∧
    nn16 (match k_deepen dp (nI a) (nI b) d with | (true, dp1) => (true, dp1) | (false, dp1) => k_deepen dp1 (nI b) (nI a) d).2 ∧
    ((match k_deepen dp (nI a) (nI b) d with | (true, dp1) => (true, dp1) | (false, dp1) => k_deepen dp1 (nI b) (nI a) d).1 = false → (match k_deepen dp (nI a) (nI b) d with | (true, dp1) => (true, dp1) | (false, dp1) => k_deepen dp1 (nI b) (nI a) d).2 = dp) := by
  rw [deepen_at dp ha hb]
  by_cases c1 : dp b < mn (dp a) d
  · rw [if_pos c1]
    dsimp only
    refine ⟨fun j hj => ?_, fun j hj => ?_, fun z => by cases z⟩
    · have hle := mn_l (dp a) d
      have hled := mn_r (dp a) d
      have ne : a ≠ b := fun z => by
        rw [z] at hle
        rw [z] at c1
        exact absurd hle (i32_nle.mpr c1)
      have e1 : m_up dp' b (m_less (dp' a) d) b = mn (dp a) d := by
        rw [up_at, less_mn, ← he a ha, ← he b hb, if_pos ⟨rfl, c1⟩]
      have e2 : m_up dp' b (m_less (dp' a) d) a = dp a := by
        rw [up_at, if_neg (fun z => ne z.1), ← he a ha]
      rw [e1, up_at, e2, if_neg, up_at, less_mn, ← he a ha, ← he b hb]
      · by_cases hjb : j = b
        · rw [if_pos ⟨hjb, c1⟩, hjb, pk_us]
        · rw [if_neg (fun z => hjb z.1), pk_un hjb]
          exact he j hj
      · intro z
        have h2 := z.2
        rw [less_mn] at h2
        have h3 := mn_l (mn (dp a) d) d
        rw [Int32.lt_iff_toInt_lt] at h2
        rw [Int32.le_iff_toInt_le] at h3 hle
        omega
    · by_cases hjb : j = b
      · rw [hjb, pk_us]
        have h1 := hn b hb
        rw [Int32.lt_iff_toInt_lt] at c1
        rw [Int32.le_iff_toInt_le] at h1 ⊢
        omega
      · rw [pk_un hjb]
        exact hn j hj
  · rw [if_neg c1]
    dsimp only
    rw [deepen_at dp hb ha]
    have e0 : ∀ j, j < 16 → m_up dp' b (m_less (dp' a) d) j = dp j := fun j hj => by
      rw [up_at, less_mn, ← he a ha, ← he b hb, if_neg (fun z => c1 z.2)]
      exact (he j hj).symm
    by_cases c2 : dp a < mn (dp b) d
    · rw [if_pos c2]
      dsimp only
      refine ⟨fun j hj => ?_, fun j hj => ?_, fun z => by cases z⟩
      · rw [up_at, e0 a ha, e0 b hb, less_mn]
        by_cases hja : j = a
        · rw [if_pos ⟨hja, c2⟩, hja, pk_us]
        · rw [if_neg (fun z => hja z.1), pk_un hja, e0 j hj]
      · by_cases hja : j = a
        · rw [hja, pk_us]
          have h1 := hn a ha
          rw [Int32.lt_iff_toInt_lt] at c2
          rw [Int32.le_iff_toInt_le] at h1 ⊢
          omega
        · rw [pk_un hja]
          exact hn j hj
    · rw [if_neg c2]
      refine ⟨fun j hj => ?_, hn, fun _ => rfl⟩
      rw [up_at, e0 a ha, e0 b hb, less_mn, if_neg (fun z => c2 z.2), e0 j hj]
theorem road_sim (dp dp' : Nat → Int32) {a b : Nat} (ha : a < 16) (hb : b < 16) (he : eq16 dp dp') (hn : nn16 dp) :
    eq16 (k_deepen dp (nI a) (nI b) 99).2 (m_up (m_up dp' b (m_less (dp' a) 99)) a 0) ∧ nn16 (k_deepen dp (nI a) (nI b) 99).2 ∧ ((k_deepen dp (nI a) (nI b) 99).1 = false → (k_deepen dp (nI a) (nI b) 99).2 = dp) := by
  rw [deepen_at dp ha hb]
  have nn : ∀ x : Int32, 0 ≤ x → ¬ x < 0 := fun x h z => by
    rw [Int32.lt_iff_toInt_lt] at z
    rw [Int32.le_iff_toInt_le] at h
    omega
  by_cases c1 : dp b < mn (dp a) 99
  · rw [if_pos c1]
    have hpos : nn16 (upd dp b (mn (dp a) 99)) := fun j hj => by
      by_cases hjb : j = b
      · rw [hjb, pk_us]
        have h1 := hn b hb
        rw [Int32.lt_iff_toInt_lt] at c1
        rw [Int32.le_iff_toInt_le] at h1 ⊢
        omega
      · rw [pk_un hjb]
        exact hn j hj
    have e0 : ∀ j, j < 16 → m_up dp' b (m_less (dp' a) 99) j = upd dp b (mn (dp a) 99) j := fun j hj => by
      rw [up_at, less_mn, ← he a ha, ← he b hb]
      by_cases hjb : j = b
      · rw [if_pos ⟨hjb, c1⟩, hjb, pk_us]
      · rw [if_neg (fun z => hjb z.1), pk_un hjb]
        exact (he j hj).symm
    refine ⟨fun j hj => ?_, hpos, fun z => by cases z⟩
    rw [up_at, e0 a ha, if_neg (fun z => nn _ (hpos a ha) z.2), e0 j hj]
  · rw [if_neg c1]
    have e0 : ∀ j, j < 16 → m_up dp' b (m_less (dp' a) 99) j = dp j := fun j hj => by
      rw [up_at, less_mn, ← he a ha, ← he b hb, if_neg (fun z => c1 z.2)]
      exact (he j hj).symm
    refine ⟨fun j hj => ?_, hn, fun _ => rfl⟩
    rw [up_at, e0 a ha, if_neg (fun z => nn _ (hn a ha) z.2), e0 j hj]
def wkind (wy : Nat) : Int32 := if wy = 0 then 0 else 4
section WS
variable {ks ns us td : Nat → Int32} {sz : Nat} (hsz : sz ≤ 50) (hR : rowsAt ks ns us sz td 0) (hG : goodAt ks ns us sz)
theorem along_sim {ks ns us td : Nat → Int32} {sz : Nat} (hsz : sz ≤ 50) (hR : rowsAt ks ns us sz td 0) (hG : goodAt ks ns us sz) (wy : Nat) {k : Nat} (hk : k < sz) (hkd : ks k = wkind wy) (dp dp' : Nat → Int32) (he : eq16 dp dp') (hn : nn16 dp) :
    eq16 (k_along ks us sz (nI k) dp).2 (m_along td wy (6 * k) dp') ∧ nn16 (k_along ks us sz (nI k) dp).2 ∧ ((k_along ks us sz (nI k) dp).1 = false → (k_along ks us sz (nI k) dp).2 = dp) := by
  obtain ⟨t0, -, t3⟩ := rows0 hR hk
  unfold k_along m_along
  rw [k_get_at hk (by omega), t0, hkd]
  unfold wkind at hkd ⊢
  by_cases hw : wy = 0
  · rw [if_pos hw] at hkd ⊢
    have hN : k_nK (ks k) = 4 := by rw [hkd]; exact nK_0
    obtain ⟨a, ha, ea⟩ := pt_of hG hk (w := 0) (by omega) (Or.inl rfl)
    obtain ⟨b, hb, eb⟩ := pt_of hG hk (w := 1) (by omega) (Or.inr ⟨rfl, Or.inl hkd⟩)
    have n0 : k_num us sz (nI k) 0 = nI a := (k_num_at (w := 0) hk hsz (by decide)).trans ea
    have n1 : k_num us sz (nI k) 1 = nI b := (k_num_at (w := 1) hk hsz (by decide)).trans eb
    have n3 : k_num us sz (nI k) 3 = us (4 * k + 3) := k_num_at (w := 3) hk hsz (by decide)
    have m0 : m_pt td (6 * k + 2) = a := by unfold m_pt; rw [show td (6 * k + 2) = us (4 * k + 0) from row_n hR hk (w := 0) (by omega), ea, nI_clamp (by omega)]
    have m1 : m_pt td (6 * k + 3) = b := by unfold m_pt; rw [show td (6 * k + 3) = us (4 * k + 1) from row_n hR hk (w := 1) (by omega), eb, nI_clamp (by omega)]
    have m3 : td (6 * k + 5) = us (4 * k + 3) := row_n hR hk (w := 3) (by omega)
    rw [if_neg (by decide), if_pos hw, if_pos rfl, n0, n1, n3, m0, m1, m3]
    exact chan_sim dp dp' ha hb _ he hn
  · rw [if_neg hw] at hkd ⊢
    have hN : k_nK (ks k) = 2 := by rw [hkd]; exact nK_4
    obtain ⟨a, ha, ea⟩ := pt_of hG hk (w := 0) (by omega) (Or.inl rfl)
    obtain ⟨b, hb, eb⟩ := pt_of hG hk (w := 1) (by omega) (Or.inr ⟨rfl, Or.inr hkd⟩)
    have n0 : k_num us sz (nI k) 0 = nI a := (k_num_at (w := 0) hk hsz (by decide)).trans ea
    have n1 : k_num us sz (nI k) 1 = nI b := (k_num_at (w := 1) hk hsz (by decide)).trans eb
    have m0 : m_pt td (6 * k + 2) = a := by unfold m_pt; rw [show td (6 * k + 2) = us (4 * k + 0) from row_n hR hk (w := 0) (by omega), ea, nI_clamp (by omega)]
    have m1 : m_pt td (6 * k + 3) = b := by unfold m_pt; rw [show td (6 * k + 3) = us (4 * k + 1) from row_n hR hk (w := 1) (by omega), eb, nI_clamp (by omega)]
    rw [if_pos rfl, if_neg hw, if_pos rfl, n0, n1, m0, m1]
    exact road_sim dp dp' ha hb he hn
theorem once_sim {ks ns us td : Nat → Int32} {sz : Nat} (hsz : sz ≤ 50) (hR : rowsAt ks ns us sz td 0) (hG : goodAt ks ns us sz) (wy : Nat) : ∀ m k (ch : Bool) (dp dp' : Nat → Int32), sz - k = m → eq16 dp dp' → nn16 dp →
    eq16 (k_once ks us sz (wkind wy) k ch dp).2 (m_round td sz wy (6 * k) dp') ∧ nn16 (k_once ks us sz (wkind wy) k ch dp).2 ∧ ((k_once ks us sz (wkind wy) k ch dp).1 = false → ch = false ∧ (k_once ks us sz (wkind wy) k ch dp).2 = dp) := by
  intro m
  induction m with
  | zero =>
    intro k ch dp dp' hm he hn
    rw [k_once, if_neg (by omega), m_round, if_neg (by omega)]
    exact ⟨he, hn, fun z => ⟨z, rfl⟩⟩
  | succ m ih =>
    intro k ch dp dp' hm he hn
    have hk : k < sz := by omega
    have um : m_round td sz wy (6 * k) dp' = m_round td sz wy (6 * (k + 1)) (m_along td wy (6 * k) dp') := by rw [m_round, if_pos (by omega)]; rfl
    have uk : k_once ks us sz (wkind wy) k ch dp = if ks k = wkind wy then (match k_along ks us sz (nI k) dp with
      | (true, dp1) => k_once ks us sz (wkind wy) (k + 1) true dp1
      | (false, dp1) => k_once ks us sz (wkind wy) (k + 1) ch dp1) else k_once ks us sz (wkind wy) (k + 1) ch dp := by rw [k_once, if_pos hk, k_get_at hk (by omega)]; rfl
    rw [uk, um]
    by_cases hkd : ks k = wkind wy
    · obtain ⟨r1, r2, r3⟩ := along_sim hsz hR hG wy hk hkd dp dp' he hn
      rw [if_pos hkd]
      rcases hA : k_along ks us sz (nI k) dp with ⟨b, dp1⟩
      rw [hA] at r1 r2 r3
      cases b with
      | true =>
        obtain ⟨q1, q2, q3⟩ := ih (k + 1) true dp1 (m_along td wy (6 * k) dp') (by omega) r1 r2
        exact ⟨q1, q2, fun z => by have := (q3 z).1; cases this⟩
      | false =>
        obtain ⟨q1, q2, q3⟩ := ih (k + 1) ch dp1 (m_along td wy (6 * k) dp') (by omega) r1 r2
        exact ⟨q1, q2, fun z => ⟨(q3 z).1, (q3 z).2.trans (r3 rfl)⟩⟩
    · rw [if_neg hkd]
      have e : m_along td wy (6 * k) dp' = dp' := by
        unfold m_along
        unfold wkind at hkd
        rw [(rows0 hR hk).1]
        by_cases hw : wy = 0
        · rw [if_pos hw] at hkd ⊢
          rw [if_neg hkd]
        · rw [if_neg hw] at hkd ⊢
          rw [if_neg hkd]
      rw [e]
      exact ih (k + 1) ch dp dp' (by omega) he hn
theorem still_sim {ks ns us td : Nat → Int32} {sz : Nat} (hsz : sz ≤ 50) (hR : rowsAt ks ns us sz td 0) (hG : goodAt ks ns us sz) (wy : Nat) {dp : Nat → Int32} (hn : nn16 dp) (h0 : (k_once ks us sz (wkind wy) 0 false dp).1 = false) : ∀ m r (dp' : Nat → Int32), 16 - r = m → eq16 dp dp' → eq16 dp (m_rounds td sz wy r dp') := by
  intro m
  induction m with
  | zero =>
    intro r dp' hm he
    rw [m_rounds, if_neg (by omega)]
    exact he
  | succ m ih =>
    intro r dp' hm he
    rw [m_rounds, if_pos (by omega)]
    obtain ⟨q1, q2, q3⟩ := once_sim hsz hR hG wy _ 0 false dp dp' rfl he hn
    rw [(q3 h0).2] at q1
    exact ih (r + 1) _ (by omega) q1
theorem rounds_sim {ks ns us td : Nat → Int32} {sz : Nat} (hsz : sz ≤ 50) (hR : rowsAt ks ns us sz td 0) (hG : goodAt ks ns us sz) (wy : Nat) : ∀ m r (ch : Bool) (dp dp' : Nat → Int32), 16 - r = m → eq16 dp dp' → nn16 dp → (ch = false → (k_once ks us sz (wkind wy) 0 false dp).1 = false) → eq16 (k_rounds ks us sz (wkind wy) r ch dp) (m_rounds td sz wy r dp') := by
  intro m
  induction m with
  | zero =>
    intro r ch dp dp' hm he hn hc
    rw [k_rounds, if_neg (by omega), m_rounds, if_neg (by omega)]
    exact he
  | succ m ih =>
    intro r ch dp dp' hm he hn hc
    cases ch with
    | false =>
      rw [k_rounds, if_pos (by omega), if_pos rfl]
      exact still_sim hsz hR hG wy hn (hc rfl) _ r dp' rfl he
    | true =>
      rw [k_rounds, if_pos (by omega), if_neg (by decide), m_rounds, if_pos (by omega)]
      obtain ⟨q1, q2, q3⟩ := once_sim hsz hR hG wy _ 0 false dp dp' rfl he hn
      rcases hA : k_once ks us sz (wkind wy) 0 false dp with ⟨b, dp1⟩
      rw [hA] at q1 q2 q3
      refine ih (r + 1) b dp1 _ (by omega) q1 q2 (fun z => ?_)
      have e : dp1 = dp := (q3 z).2
      rw [e, hA]
      exact z
theorem init_at (fr : Int32) : ∀ m p (dp : Nat → Int32) (j : Nat), 16 - p = m → k_init fr p dp j = if p ≤ j ∧ j < 16 then (if nI j = fr then 99 else 0) else dp j := by
  intro m
  induction m with
  | zero =>
    intro p dp j hm
    rw [k_init, if_neg (by omega), if_neg (by omega)]
  | succ m ih =>
    intro p dp j hm
    rw [k_init, if_pos (by omega), ih (p + 1) _ j (by omega)]
    by_cases h1 : j = p
    · subst h1
      rw [if_neg (show ¬ (j + 1 ≤ j ∧ j < 16) by omega), pk_us, if_pos (show j ≤ j ∧ j < 16 by omega)]
    · rw [pk_un h1]
      by_cases h2 : p ≤ j ∧ j < 16
      · rw [if_pos (by omega), if_pos h2]
      · rw [if_neg (by omega), if_neg h2]
theorem spread_sim {ks ns us td : Nat → Int32} {sz : Nat} (hsz : sz ≤ 50) (hR : rowsAt ks ns us sz td 0) (hG : goodAt ks ns us sz) (wy : Nat) (fr : Int32) (dp dp' : Nat → Int32) : eq16 (k_spread ks us sz (wkind wy) fr dp) (m_goes td sz wy fr dp') := by
  unfold k_spread m_goes
  refine rounds_sim hsz hR hG wy _ 0 true _ _ rfl (fun j hj => ?_) (fun j hj => ?_) (fun z => by cases z)
  · have h01 : 0 ≤ j ∧ j < 16 := ⟨Nat.zero_le _, hj⟩
    rw [init_at fr _ 0 dp j rfl, init_at fr _ 0 dp' j rfl]
    simp only [if_pos h01]
  · have h01 : 0 ≤ j ∧ j < 16 := ⟨Nat.zero_le _, hj⟩
    rw [init_at fr _ 0 _ _ rfl, if_pos h01]
    split <;> decide
theorem touch_true (td : Nat → Int32) (pn : Nat) (kind pt : Int32) : ∀ m i, 6 * pn - i ≤ m → m_touch td pn kind pt i true = true := by
  intro m
  induction m with
  | zero => intro i hm; rw [m_touch, if_neg (by omega)]
  | succ m ih =>
    intro i hm
    rw [m_touch]
    split
    · rw [if_pos rfl]
      exact ih (i + 6) (by omega)
    · rfl
theorem touch_sim {ks ns us td : Nat → Int32} {sz : Nat} (hsz : sz ≤ 50) (hR : rowsAt ks ns us sz td 0) {kind : Int32} (hk2 : kind = 0 ∨ kind = 4) (pt : Int32) : ∀ m k, sz - k = m → m_touch td sz kind pt (6 * k) false = k_has ks us sz kind pt k := by
  intro m
  induction m with
  | zero => intro k hm; rw [m_touch, if_neg (by omega), k_has, if_neg (by omega)]
  | succ m ih =>
    intro k hm
    have hk : k < sz := by omega
    rw [m_touch, if_pos (by omega), if_neg (by decide), k_has, if_pos hk, (rows0 hR hk).1]
    by_cases h1 : ks k = kind
    · have hN : 2 ≤ k_nK (ks k) := by
        rcases hk2 with z | z
        · rw [h1, z, nK_0]; decide
        · rw [h1, z, nK_4]; decide
      rw [if_pos h1, if_pos h1, show td (6 * k + 2) = us (4 * k + 0) from row_n hR hk (w := 0) (by omega), show td (6 * k + 3) = us (4 * k + 1) from row_n hR hk (w := 1) (by omega), show k_num us sz (nI k) 0 = us (4 * k + 0) from k_num_at (w := 0) hk hsz (by decide), show k_num us sz (nI k) 1 = us (4 * k + 1) from k_num_at (w := 1) hk hsz (by decide)]
      have ht := touch_true td sz kind pt _ (6 * k + 6) (Nat.le_refl _)
      have hi := ih (k + 1) (by omega)
      rw [show 6 * (k + 1) = 6 * k + 6 by omega] at hi
      rw [ht, hi]
    · rw [if_neg h1, if_neg h1]
      have hi := ih (k + 1) (by omega)
      rw [show 6 * (k + 1) = 6 * k + 6 by omega] at hi
      exact hi
theorem holds_sim {ks ns us td : Nat → Int32} {sz : Nat} (hsz : sz ≤ 50) (hR : rowsAt ks ns us sz td 0) (hG : goodAt ks ns us sz) {dp dp' : Nat → Int32} (he : eq16 dp dp') {k : Nat} (hk : k < sz) (r : Nat) : k_holds ks us sz dp r (nI k) = m_isBad td sz dp' k r := by
  have hN := nK_pos hG hk
  unfold k_holds m_isBad
  rw [k_get_at hk (by omega), (rows0 hR hk).1, show td (6 * k + 2) = us (4 * k + 0) from row_n hR hk (w := 0) hN, show k_num us sz (nI k) 0 = us (4 * k + 0) from k_num_at (w := 0) hk hsz (by decide), show k_num us sz (nI k) 2 = us (4 * k + 2) from k_num_at (w := 2) hk hsz (by decide)]
  have t1 := touch_sim hsz hR (kind := 0) (Or.inl rfl) (us (4 * k + 0)) _ 0 rfl
  have t2 := touch_sim hsz hR (kind := 4) (Or.inr rfl) (us (4 * k + 0)) _ 0 rfl
  rw [show m_touch td sz 0 (us (4 * k + 0)) 0 false = k_has ks us sz 0 (us (4 * k + 0)) 0 from t1, show m_touch td sz 4 (us (4 * k + 0)) 0 false = k_has ks us sz 4 (us (4 * k + 0)) 0 from t2]
  by_cases h0 : r = 0
  · rw [if_pos h0, if_pos h0]
  · rw [if_neg h0, if_neg h0]
    by_cases h1 : r = 1
    · rw [if_pos h1, if_pos h1]
    · rw [if_neg h1, if_neg h1]
      by_cases h2 : r = 2
      · rw [if_pos h2, if_pos h2]
        by_cases c : ks k = 0
        · rw [if_pos c, if_pos c, show td (6 * k + 4) = us (4 * k + 2) from row_n hR hk (w := 2) (by rw [c, nK_0]; decide)]
        · rw [if_neg c, if_neg c]
      · rw [if_neg h2, if_neg h2]
        by_cases c : ks k = 2
        · obtain ⟨a, ha, ea⟩ := pt_of hG hk (w := 0) hN (Or.inl rfl)
          rw [if_pos c, if_pos c, show td (6 * k + 4) = us (4 * k + 2) from row_n hR hk (w := 2) (by rw [c, nK_2]; decide)]
          have e1 : k_depthAt dp (us (4 * k + 0)) = dp a := by rw [ea, k_depthAt, if_pos (isPoint_nI ha), nI_clamp (by omega)]
          have e2 : m_pt td (6 * k + 2) = a := by unfold m_pt; rw [show td (6 * k + 2) = us (4 * k + 0) from row_n hR hk (w := 0) hN, ea, nI_clamp (by omega)]
          rw [e1, e2, he a ha]
        · rw [if_neg c, if_neg c]
end WS
