/-! THE FACE, method by method -/
theorem ok_of {ks ns us td : Nat → Int32} {sz : Nat} (hR : rowsAt ks ns us sz td 0) (hG : goodAt ks ns us sz) : m_ok td sz := by
  intro k hk
  obtain ⟨⟨a, ha, ea⟩, ⟨b, hb, eb⟩, hw⟩ := hG k hk
  obtain ⟨t0, t1, t2⟩ := rows0 hR hk
  have hnum : ∀ w, w < 4 → ∃ c, c < 100 ∧ td (6 * k + 2 + w) = nI c := by
    intro w hw4
    rw [t2 w hw4]
    split
    · rename_i h
      obtain ⟨c, hc, ec, -⟩ := hw w h
      exact ⟨c, hc, ec⟩
    · exact ⟨0, by decide, rfl⟩
  have hpt : ∀ w, w < k_nK (ks k) → (w = 0 ∨ (w = 1 ∧ (ks k = 0 ∨ ks k = 4))) → ∃ c, c < 16 ∧ td (6 * k + 2 + w) = nI c := fun w h h2 => by
    rw [row_n hR hk h]
    exact pt_of hG hk h h2
  refine ⟨⟨a, ha, t0.trans ea⟩, ⟨b, hb, t1.trans eb⟩, hnum 0 (by decide), hnum 1 (by decide), hnum 2 (by decide), hnum 3 (by decide), fun h => ?_, fun h => ?_, fun h => ?_⟩
  · rw [t0] at h
    have hN : k_nK (ks k) = 4 := by rw [h]; exact nK_0
    exact ⟨hpt 0 (by omega) (Or.inl rfl), hpt 1 (by omega) (Or.inr ⟨rfl, Or.inl h⟩)⟩
  · rw [t0] at h
    have hN : k_nK (ks k) = 2 := by rw [h]; exact nK_4
    exact ⟨hpt 0 (by omega) (Or.inl rfl), hpt 1 (by omega) (Or.inr ⟨rfl, Or.inr h⟩)⟩
  · exact hpt 0 (nK_pos hG hk) (Or.inl rfl)
theorem lt_of_nle {x y : Int32} (h : ¬ x ≤ y) : y < x := i32_nle.mp h
theorem nle_of_lt {x y : Int32} (h : x < y) : ¬ y ≤ x := fun z => absurd h (by
  rw [Int32.lt_iff_toInt_lt]
  rw [Int32.le_iff_toInt_le] at z
  omega)
theorem le_of_nlt {x y : Int32} (h : ¬ x < y) : y ≤ x := by
  rw [Int32.lt_iff_toInt_lt] at h
  rw [Int32.le_iff_toInt_le]
  omega
theorem piece_sim {ks ns us td : Nat → Int32} {sz : Nat} (hsz : sz ≤ 50) (hR : rowsAt ks ns us sz td 0) (hG : goodAt ks ns us sz) (i w : Int32) :
    (k_piece ks ns us sz i w = (false, 0) ∧ m_piece td sz i w = (0, 1)) ∨ ∃ v, k_piece ks ns us sz i w = (true, v) ∧ m_piece td sz i w = (v, 0) := by
  unfold k_piece m_piece
  by_cases c1 : i < 0
  · rw [if_pos c1, if_pos c1]
    exact Or.inl ⟨rfl, rfl⟩
  · rw [if_neg c1, if_neg c1]
    by_cases c2 : nI sz ≤ i
    · rw [if_neg (fun z => nle_of_lt z c2), if_pos c2]
      exact Or.inl ⟨rfl, rfl⟩
    · rw [if_pos (lt_of_nle c2), if_neg c2]
      obtain ⟨j, hj, e⟩ := nat_of (n := sz) (by omega) c1 c2
      subst e
      obtain ⟨t0, t1, t2⟩ := rows0 hR hj
      obtain ⟨⟨a, ha, ea⟩, -, -⟩ := hG j hj
      have hN := nK_sim a ha
      rw [k_get_at hj (by omega), k_get_at hj (by omega), nI_clamp (by omega), t0, ea, ← hN.1]
      rw [ea] at t2
      by_cases c3 : w < 0
      · rw [if_pos c3, if_pos c3]
        exact Or.inl ⟨rfl, rfl⟩
      · rw [if_neg c3, if_neg c3]
        obtain ⟨x, hx, e⟩ := nI_of c3
        subst e
        by_cases c4 : x < 2 + k_nK (nI a)
        · rw [if_pos (nI_lt c4 (by omega)), if_pos (nI_le (show x ≤ 1 + k_nK (nI a) by omega) (by omega)), nI_clamp hx]
          refine Or.inr ⟨td (6 * j + x), ?_, rfl⟩
          by_cases d0 : x = 0
          · subst d0
            rw [if_pos (by decide)]
            show (true, nI a) = (true, td (6 * j))
            rw [t0, ea]
          · rw [if_neg (nI_ne0 (by omega) hx)]
            by_cases d1 : x = 1
            · subst d1
              rw [if_pos (by decide), t1]
            · rw [if_neg (show ¬ nI x = (1 : Int32) from fun z => d1 ((nI_eq (a := x) (b := 1) hx (by decide)).mp z)), show nI x - 2 = nI (x - 2) from pk_sub (a := x) (b := 2) (by omega), k_num_at hj hsz (by omega)]
              have := t2 (x - 2) (by omega)
              rw [if_pos (by omega), show 6 * j + 2 + (x - 2) = 6 * j + x by omega] at this
              rw [this]
        · rw [if_neg (nI_nlt (by omega) hx), if_neg (nI_ge (show 1 + k_nK (nI a) < x by omega) hx)]
          exact Or.inl ⟨rfl, rfl⟩
theorem in_01 (w : Int32) : m_in w 0 1 = true ↔ (w = 0 ∨ w = 1) := by
  unfold m_in
  constructor
  · intro h
    split at h
    · cases h
    · rename_i h1
      split at h
      · cases h
      · rename_i h2
        obtain ⟨j, hj, e⟩ := nat_of (n := 2) (by decide) h1 (fun z => h2 (by rw [Int32.le_iff_toInt_le] at z; rw [Int32.lt_iff_toInt_lt]; exact Int.lt_of_lt_of_le (by decide) z))
        subst e
        rcases (show j = 0 ∨ j = 1 by omega) with rfl | rfl
        · exact Or.inl rfl
        · exact Or.inr rfl
  · rintro (rfl | rfl) <;> decide
theorem pt_nat {p : Int32} (h : k_isPoint p = true) : ∃ a, a < 16 ∧ p = nI a := nat_of (n := 16) (by decide) (k_isPoint_spec h).1 (k_isPoint_spec h).2
theorem depth_sim {dp dm : Nat → Int32} (he : eq16 dp dm) {p : Int32} (h : k_isPoint p = true) : k_depthAt dp p = dm p.toNatClampNeg := by
  obtain ⟨a, ha, e⟩ := pt_nat h
  subst e
  rw [k_depthAt, if_pos h, nI_clamp (by omega), he a ha]
theorem reach_sim {ks ns us td : Nat → Int32} {sz : Nat} (hsz : sz ≤ 50) (hR : rowsAt ks ns us sz td 0) (hG : goodAt ks ns us sz) (dp dm : Nat → Int32) (wy fr to : Int32) :
    (k_reach ks us sz dp wy fr to = (false, 0, dp) ∧ m_reach td sz dm wy fr to = (0, 1, dm)) ∨ ∃ v dp1 dm1, k_reach ks us sz dp wy fr to = (true, v, dp1) ∧ m_reach td sz dm wy fr to = (v, 0, dm1) := by
  unfold k_reach m_reach
  by_cases c1 : wy = 0 ∨ wy = 1
  · rw [if_pos c1, if_pos ((in_01 wy).mpr c1)]
    by_cases c2 : k_isPoint fr = true
    · rw [if_pos c2, if_pos c2]
      by_cases c3 : k_isPoint to = true
      · rw [if_pos c3, if_pos c3]
        have hk : (if wy = 0 then (0 : Int32) else 4) = wkind wy.toNatClampNeg := by
          rcases c1 with rfl | rfl <;> decide
        rw [hk, depth_sim (spread_sim hsz hR hG wy.toNatClampNeg fr dp dm) c3]
        exact Or.inr ⟨_, _, _, rfl, rfl⟩
      · rw [if_neg c3, if_neg c3]
        exact Or.inl ⟨rfl, rfl⟩
    · rw [if_neg c2, if_neg c2]
      exact Or.inl ⟨rfl, rfl⟩
  · rw [if_neg c1, if_neg (fun z => c1 ((in_01 wy).mp z))]
    exact Or.inl ⟨rfl, rfl⟩
theorem deep_sim {ks ns us td : Nat → Int32} {sz : Nat} (hsz : sz ≤ 50) (hR : rowsAt ks ns us sz td 0) (hG : goodAt ks ns us sz) (dp dm : Nat → Int32) (fr to : Int32) :
    (k_deep ks us sz dp fr to = (false, 0, dp) ∧ m_deep td sz dm fr to = (0, 1, dm)) ∨ ∃ v dp1 dm1, k_deep ks us sz dp fr to = (true, v, dp1) ∧ m_deep td sz dm fr to = (v, 0, dm1) := by
  unfold k_deep m_deep
  by_cases c2 : k_isPoint fr = true
  · rw [if_pos c2, if_pos c2]
    by_cases c3 : k_isPoint to = true
    · rw [if_pos c3, if_pos c3, show k_depthAt (k_spread ks us sz 0 fr dp) to = _ from depth_sim (spread_sim hsz hR hG 0 fr dp dm) c3]
      exact Or.inr ⟨_, _, _, rfl, rfl⟩
    · rw [if_neg c3, if_neg c3]
      exact Or.inl ⟨rfl, rfl⟩
  · rw [if_neg c2, if_neg c2]
    exact Or.inl ⟨rfl, rfl⟩
theorem cntk_sim {ks ns us td : Nat → Int32} {sz : Nat} (hR : rowsAt ks ns us sz td 0) (x : Int32) : ∀ m k f, sz - k = m → m_cnt td sz x k f = k_cnt ks x sz k f := by
  intro m
  induction m with
  | zero => intro k f hm; rw [m_cnt, if_neg (by omega), k_cnt, if_neg (by omega)]
  | succ m ih =>
    intro k f hm
    have hk : k < sz := by omega
    rw [m_cnt, if_pos hk, k_cnt, if_pos hk, (rows0 hR hk).1]
    show (if ks k = x then m_cnt td sz x (k + 1) (f + 1) else m_cnt td sz x (k + 1) f) = _
    rw [ih (k + 1) (f + 1) (by omega), ih (k + 1) f (by omega)]
theorem count_sim {ks ns us td : Nat → Int32} {sz : Nat} (hR : rowsAt ks ns us sz td 0) (len kp : Nat) (w : Int32) : m_count td len sz kp w = k_count len sz kp ks w := by
  unfold m_count k_count
  by_cases c1 : w < 10
  · rw [if_pos c1, if_neg (nle_of_lt c1)]
  · have c1' : (10 : Int32) ≤ w := le_of_nlt c1
    have n0 : ¬ w = 0 := by rintro rfl; exact absurd c1' (by decide)
    have n1 : ¬ w = 1 := by rintro rfl; exact absurd c1' (by decide)
    have n2 : ¬ w = 2 := by rintro rfl; exact absurd c1' (by decide)
    rw [if_neg c1, if_neg n0, if_neg n1, if_neg n2, if_pos c1', cntk_sim hR _ _ 0 0 rfl]
    have h0 : ¬ w < 0 := fun z => by
      rw [Int32.lt_iff_toInt_lt] at z c1
      exact c1 (Int.lt_trans z (by decide))
    obtain ⟨j, hj, e⟩ := nI_of h0
    subst e
    have hj10 : 10 ≤ j := Nat.le_of_not_lt (fun z => c1 (show nI j < nI 10 from nI_lt z (by decide)))
    have es : nI j - 10 = nI (j - 10) := pk_sub (a := j) (b := 10) hj10
    unfold k_sizeOfKind
    by_cases c2 : 16 ≤ j
    · rw [if_pos (show (16 : Int32) ≤ nI j from nI_le (a := 16) (b := j) c2 hj), if_neg]
      rw [es]
      unfold k_isKind
      rw [if_neg (nI_pos (by omega)), if_pos (show (6 : Int32) ≤ nI (j - 10) from nI_le (a := 6) (by omega) (by omega))]
      decide
    · rw [if_neg (show ¬ (16 : Int32) ≤ nI j from nI_ge (a := j) (b := 16) (by omega) (by decide)), if_pos]
      rw [es]
      unfold k_isKind
      rw [if_neg (nI_pos (by omega)), if_neg (show ¬ (6 : Int32) ≤ nI (j - 10) from nI_ge (a := j - 10) (b := 6) (by omega) (by decide))]
theorem findo_sim {ks ns us td : Nat → Int32} {sz : Nat} (hR : rowsAt ks ns us sz td 0) (hO : onceAt ks ns sz) (kind name : Int32) : oI (m_find td 0 sz kind name 0 none) = k_indexOf ks ns kind name sz 0 := by
  rcases find_sim (o := 0) (fun k hk => ⟨(hR k hk).1, (hR k hk).2.1⟩) hO kind name with ⟨h1, h2, -⟩ | ⟨i, -, -, -, h1, h2⟩
  · rw [h1, h2]; rfl
  · rw [h1, h2]; rfl
theorem sign_step (sg : Nat → Int32) {len : Nat} (h : len ≤ 500) (c : Int32) : m_sign sg len c = k_collect sg len c := by
  unfold m_sign k_collect m_in
  by_cases c1 : c < 33
  · rw [if_pos c1, if_pos c1, if_neg (by decide)]
  · rw [if_neg c1, if_neg c1]
    by_cases c2 : 126 < c
    · rw [if_pos c2, if_pos c2, if_neg (by decide)]
    · rw [if_neg c2, if_neg c2, if_pos rfl]
      by_cases c3 : len < 500
      · rw [if_neg (by omega), if_pos c3]
      · rw [if_pos (by omega), if_neg c3]
/-! compare -/
theorem wsm_true (f : Nat → Nat) (q : Nat → Bool) : ∀ n, wsm (fun k => if q k = true then f k else 0) (fun _ => true) n = wsm f q n := by
  intro n
  induction n with
  | zero => rfl
  | succ n ih => show wsm _ _ n + (if true = true then (if q n = true then f n else 0) else 0) = wsm f q n + if q n = true then f n else 0; rw [ih, if_pos rfl]
theorem wsm_plus (f g : Nat → Nat) : ∀ n, wsm (fun k => f k + g k) (fun _ => true) n = wsm f (fun _ => true) n + wsm g (fun _ => true) n := by
  intro n
  induction n with
  | zero => rfl
  | succ n ih =>
    show wsm _ _ n + (if true = true then f n + g n else 0) = (wsm f _ n + if true = true then f n else 0) + (wsm g _ n + if true = true then g n else 0)
    rw [ih, if_pos rfl, if_pos rfl, if_pos rfl]
    omega
theorem wsm_zero (q : Nat → Bool) : ∀ n, wsm (fun _ => 0) q n = 0 := by
  intro n
  induction n with
  | zero => rfl
  | succ n ih => show wsm _ _ n + (if q n = true then 0 else 0) = 0; rw [ih]; split <;> rfl
theorem wsm_false (f : Nat → Nat) : ∀ n, wsm f (fun _ => false) n = 0 := by
  intro n
  induction n with
  | zero => rfl
  | succ n ih => show wsm _ _ n + (if false = true then f n else 0) = 0; rw [ih]; rfl
theorem wsm_fcongr {f g : Nat → Nat} {q : Nat → Bool} : ∀ n, (∀ j, j < n → f j = g j) → wsm f q n = wsm g q n := by
  intro n
  induction n with
  | zero => intro _; rfl
  | succ n ih => intro h; show wsm f q n + (if q n = true then f n else 0) = wsm g q n + if q n = true then g n else 0; rw [ih (fun j hj => h j (by omega)), h n (by omega)]
theorem wsm_swap (M : Nat → Nat → Bool) (m : Nat) : ∀ n, wsm (fun k => wsm (fun _ => 1) (M k) m) (fun _ => true) n = wsm (fun o => wsm (fun _ => 1) (fun k => M k o) n) (fun _ => true) m := by
  intro n
  induction n with
  | zero =>
    show 0 = wsm (fun _ => 0) (fun _ => true) m
    rw [wsm_zero]
  | succ n ih =>
    show wsm (fun k => wsm (fun _ => 1) (M k) m) (fun _ => true) n + (if true = true then wsm (fun _ => 1) (M n) m else 0) = wsm (fun o => wsm (fun _ => 1) (fun k => M k o) n + if M n o = true then 1 else 0) (fun _ => true) m
    rw [ih, wsm_plus, if_pos rfl, wsm_true (fun _ => 1)]
theorem wsm_one {q : Nat → Bool} {n i : Nat} (hi : i < n) (hq : q i = true) (hu : ∀ j, j < n → q j = true → j = i) : wsm (fun _ => 1) q n = 1 := by
  rw [wsm_add (p := fun _ => false) (q := q) (i := i) rfl hq n (fun j hj hji => by
    cases h : q j with
    | true => exact absurd (hu j hj h) hji
    | false => rfl), wsm_false, if_pos hi]
theorem wsm_not (q : Nat → Bool) : ∀ n, wsm (fun _ => 1) q n + wsm (fun _ => 1) (fun k => !q k) n = n := by
  intro n
  induction n with
  | zero => rfl
  | succ n ih =>
    show wsm (fun _ => 1) q n + (if q n = true then 1 else 0) + (wsm (fun _ => 1) (fun k => !q k) n + if (!q n) = true then 1 else 0) = n + 1
    cases q n <;> simp <;> omega
theorem same_spec (us us2 : Nat → Int32) {sz sz2 k o many : Nat} (hk : k < sz) (ho : o < sz2) (hs : sz ≤ 50) (hs2 : sz2 ≤ 50) (hm : many ≤ 4) : ∀ m w, many - w = m → (k_same us sz (nI k) us2 sz2 (nI o) many w = true ↔ ∀ v, w ≤ v → v < many → us (4 * k + v) = us2 (4 * o + v)) := by
  intro m
  induction m with
  | zero =>
    intro w hw
    rw [k_same, if_neg (by omega)]
    exact ⟨fun _ v h1 h2 => absurd h2 (by omega), fun _ => rfl⟩
  | succ m ih =>
    intro w hw
    rw [k_same, if_pos (by omega), k_num_at hk hs (by omega), k_num_at ho hs2 (by omega)]
    by_cases h : us (4 * k + w) = us2 (4 * o + w)
    · rw [if_pos h, ih (w + 1) (by omega)]
      constructor
      · intro g v h1 h2
        by_cases hv : v = w
        · rw [hv]; exact h
        · exact g v (by omega) h2
      · intro g v h1 h2
        exact g v (by omega) h2
    · rw [if_neg h]
      exact ⟨fun z => (by cases z), fun g => absurd (g w (Nat.le_refl _) (by omega)) h⟩
theorem alike_spec (td : Nat → Int32) (a b : Nat) : ∀ m k (is : Bool), 6 - k = m → (m_alike td a b k is = true ↔ is = true ∧ ∀ j, k ≤ j → j < 6 → td (a + j) = td (b + j)) := by
  intro m
  induction m with
  | zero =>
    intro k is hk
    rw [m_alike, if_neg (by omega)]
    exact ⟨fun h => ⟨h, fun j h1 h2 => absurd h2 (by omega)⟩, fun h => h.1⟩
  | succ m ih =>
    intro k is hk
    rw [m_alike, if_pos (by omega)]
    cases is with
    | false =>
      rw [if_pos rfl, ih (k + 1) false (by omega)]
      exact ⟨fun h => (by cases h.1), fun h => (by cases h.1)⟩
    | true =>
      rw [if_neg (by decide)]
      by_cases h : td (a + k) = td (b + k)
      · rw [if_pos h, ih (k + 1) true (by omega)]
        constructor
        · rintro ⟨-, g⟩
          refine ⟨rfl, fun j h1 h2 => ?_⟩
          by_cases hj : j = k
          · rw [hj]; exact h
          · exact g j (by omega) h2
        · rintro ⟨-, g⟩
          exact ⟨rfl, fun j h1 h2 => g j (by omega) h2⟩
      · rw [if_neg h, ih (k + 1) false (by omega)]
        exact ⟨fun z => (by cases z.1), fun z => absurd (z.2 k (Nat.le_refl _) (by omega)) h⟩
theorem miss_cnt (ks ns : Nat → Int32) (sz : Nat) (ks2 ns2 : Nat → Int32) (sz2 : Nat) : ∀ m k f, sz - k = m → k ≤ sz → f = wsm (fun _ => 1) (fun k => decide (k_indexOf ks2 ns2 (ks k) (ns k) sz2 0 = -1)) k → k_miss ks ns sz ks2 ns2 sz2 k f = wsm (fun _ => 1) (fun k => decide (k_indexOf ks2 ns2 (ks k) (ns k) sz2 0 = -1)) sz := by
  intro m
  induction m with
  | zero => intro k f hm hk hf; rw [k_miss, if_neg (by omega), hf, show k = sz by omega]
  | succ m ih =>
    intro k f hm hk hf
    rw [k_miss, if_pos (by omega)]
    by_cases h : k_indexOf ks2 ns2 (ks k) (ns k) sz2 0 = -1
    · rw [if_pos h]
      refine ih (k + 1) (f + 1) (by omega) (by omega) ?_
      show f + 1 = wsm _ _ k + if decide (k_indexOf ks2 ns2 (ks k) (ns k) sz2 0 = -1) = true then 1 else 0
      rw [if_pos (by simpa using h), hf]
    · rw [if_neg h]
      refine ih (k + 1) f (by omega) (by omega) ?_
      show f = wsm _ _ k + if decide (k_indexOf ks2 ns2 (ks k) (ns k) sz2 0 = -1) = true then 1 else 0
      rw [if_neg (by simpa using h), hf, Nat.add_zero]
def chgB (ks ns us : Nat → Int32) (sz : Nat) (ks2 ns2 us2 : Nat → Int32) (sz2 : Nat) (k : Nat) : Bool := !decide (k_indexOf ks2 ns2 (ks k) (ns k) sz2 0 = -1) && !k_same us sz (nI k) us2 sz2 (k_indexOf ks2 ns2 (ks k) (ns k) sz2 0) (k_nK (k_get ks sz (nI k))) 0
theorem chg_cnt (ks ns us : Nat → Int32) (sz : Nat) (ks2 ns2 us2 : Nat → Int32) (sz2 : Nat) : ∀ m k f, sz - k = m → k ≤ sz → f = wsm (fun _ => 1) (chgB ks ns us sz ks2 ns2 us2 sz2) k → k_chg ks ns us sz ks2 ns2 us2 sz2 k f = wsm (fun _ => 1) (chgB ks ns us sz ks2 ns2 us2 sz2) sz := by
  intro m
  induction m with
  | zero => intro k f hm hk hf; rw [k_chg, if_neg (by omega), hf, show k = sz by omega]
  | succ m ih =>
    intro k f hm hk hf
    rw [k_chg, if_pos (by omega)]
    by_cases h : k_indexOf ks2 ns2 (ks k) (ns k) sz2 0 = -1
    · rw [if_pos h]
      refine ih (k + 1) f (by omega) (by omega) ?_
      show f = wsm _ _ k + if chgB ks ns us sz ks2 ns2 us2 sz2 k = true then 1 else 0
      rw [if_neg (by simp [chgB, h]), hf, Nat.add_zero]
    · rw [if_neg h]
      by_cases h2 : k_same us sz (nI k) us2 sz2 (k_indexOf ks2 ns2 (ks k) (ns k) sz2 0) (k_nK (k_get ks sz (nI k))) 0 = true
      · rw [if_pos h2]
        refine ih (k + 1) f (by omega) (by omega) ?_
        show f = wsm _ _ k + if chgB ks ns us sz ks2 ns2 us2 sz2 k = true then 1 else 0
        rw [if_neg (by simp [chgB, h2]), hf, Nat.add_zero]
      · rw [if_neg h2]
        refine ih (k + 1) (f + 1) (by omega) (by omega) ?_
        show f + 1 = wsm _ _ k + if chgB ks ns us sz ks2 ns2 us2 sz2 k = true then 1 else 0
        rw [if_pos (by simp [chgB, h, h2]), hf]
theorem cmp_sim {ks ns us ks2 ns2 us2 td : Nat → Int32} {sz sz2 : Nat} (hsz : sz ≤ 50) (hsz2 : sz2 ≤ 50) (hR : rowsAt ks ns us sz td 0) (hR2 : rowsAt ks2 ns2 us2 sz2 td 300) (hG : goodAt ks ns us sz) (hO2 : onceAt ks2 ns2 sz2) : ∀ m k n b, sz - k = m → k ≤ sz → n = wsm (fun _ => 1) (fun k => decide (k_indexOf ks2 ns2 (ks k) (ns k) sz2 0 = -1)) k + wsm (fun _ => 1) (chgB ks ns us sz ks2 ns2 us2 sz2) k → b = wsm (fun _ => 1) (fun k => !decide (k_indexOf ks2 ns2 (ks k) (ns k) sz2 0 = -1)) k →
    m_cmp td sz sz2 k n b = (wsm (fun _ => 1) (fun k => decide (k_indexOf ks2 ns2 (ks k) (ns k) sz2 0 = -1)) sz + wsm (fun _ => 1) (chgB ks ns us sz ks2 ns2 us2 sz2) sz, wsm (fun _ => 1) (fun k => !decide (k_indexOf ks2 ns2 (ks k) (ns k) sz2 0 = -1)) sz) := by
  intro m
  induction m with
  | zero => intro k n b hm hk hn hb; rw [m_cmp, if_neg (by omega), hn, hb, show k = sz by omega]
  | succ m ih =>
    intro k n b hm hk hn hb
    have hk2 : k < sz := by omega
    obtain ⟨t0, t1, t2⟩ := rows0 hR hk2
    rw [m_cmp, if_pos hk2, t0, t1]
    have sA : ∀ p : Nat → Bool, wsm (fun _ => 1) p (k + 1) = wsm (fun _ => 1) p k + if p k = true then 1 else 0 := fun _ => rfl
    rcases find_sim (o := 300) (fun k hk => ⟨(hR2 k hk).1, (hR2 k hk).2.1⟩) hO2 (ks k) (ns k) with ⟨h1, h2, -⟩ | ⟨o, ho, gk, gn, h1, h2⟩
    · rw [h2]
      dsimp only
      refine ih (k + 1) (n + 1) (b + 0) (by omega) (by omega) ?_ ?_
      · rw [sA, sA, if_pos (by simp [h1]), if_neg (by simp [chgB, h1]), hn]; omega
      · rw [sA, if_neg (by simp [h1]), hb]
    · rw [h2]
      dsimp only
      have hne : ¬ nI o = -1 := nI_m1 (by omega)
      obtain ⟨u0, u1, u2⟩ := hR2 o ho
      have hiff : m_alike td (6 * k) (300 + 6 * o) 0 true = true ↔ k_same us sz (nI k) us2 sz2 (nI o) (k_nK (k_get ks sz (nI k))) 0 = true := by
        rw [alike_spec td _ _ _ 0 true rfl, k_get_at hk2 (by omega), same_spec us us2 hk2 ho hsz hsz2 (k_nK_le _) _ 0 rfl]
        constructor
        · rintro ⟨-, g⟩ v - hv
          have hv4 : v < 4 := by have := k_nK_le (ks k); omega
          have := g (2 + v) (Nat.zero_le _) (by omega)
          rw [← Nat.add_assoc, ← Nat.add_assoc, t2 v hv4, u2 v hv4, gk, if_pos hv, if_pos hv] at this
          exact this
        · intro g
          refine ⟨rfl, fun j _ hj => ?_⟩
          rcases (show j = 0 ∨ j = 1 ∨ ∃ v, v < 4 ∧ j = 2 + v by
            rcases (show j = 0 ∨ j = 1 ∨ 2 ≤ j by omega) with z | z | z
            · exact Or.inl z
            · exact Or.inr (Or.inl z)
            · exact Or.inr (Or.inr ⟨j - 2, by omega, by omega⟩)) with z | z | ⟨v, hv, z⟩
          · subst z; show td (6 * k) = td (300 + 6 * o); rw [t0, u0, gk]
          · subst z; rw [t1, u1, gn]
          · subst z
            rw [← Nat.add_assoc, ← Nat.add_assoc, t2 v hv, u2 v hv, gk]
            by_cases hv2 : v < k_nK (ks k)
            · rw [if_pos hv2, if_pos hv2]; exact g v (Nat.zero_le _) hv2
            · rw [if_neg hv2, if_neg hv2]
      by_cases hs : m_alike td (6 * k) (300 + 6 * o) 0 true = true
      · rw [if_pos hs]
        refine ih (k + 1) (n + 0) (b + 1) (by omega) (by omega) ?_ ?_
        · rw [sA, sA, if_neg (by simp [h1, hne]), if_neg (by simp [chgB, h1, hiff.mp hs]), hn]; omega
        · rw [sA, if_pos (by simp [h1, hne]), hb]
      · rw [if_neg hs]
        have hs2 : ¬ k_same us sz (nI k) us2 sz2 (nI o) (k_nK (k_get ks sz (nI k))) 0 = true := fun z => hs (hiff.mpr z)
        refine ih (k + 1) (n + 1) (b + 1) (by omega) (by omega) ?_ ?_
        · rw [sA, sA, if_neg (by simp [h1, hne]), if_pos (by simp [chgB, h1, hne, hs2]), hn]; omega
        · rw [sA, if_pos (by simp [h1, hne]), hb]
theorem compare_sim {ks ns us ks2 ns2 us2 td : Nat → Int32} {sz sz2 : Nat} (hsz : sz ≤ 50) (hsz2 : sz2 ≤ 50) (hR : rowsAt ks ns us sz td 0) (hR2 : rowsAt ks2 ns2 us2 sz2 td 300) (hG : goodAt ks ns us sz) (hO : onceAt ks ns sz) (hO2 : onceAt ks2 ns2 sz2) : m_compare td sz sz2 = nI (k_compare ks ns us sz ks2 ns2 us2 sz2) := by
  have idx : ∀ (ks ns : Nat → Int32) (n : Nat) (hO : onceAt ks ns n) (a b : Int32), n ≤ 50 → wsm (fun _ => 1) (fun o => decide (a = ks o ∧ b = ns o)) n = if (!decide (k_indexOf ks ns a b n 0 = -1)) = true then 1 else 0 := by
    intro ks ns n hO a b hn
    rcases idx_spec ks ns a b n _ 0 rfl with ⟨h1, h2⟩ | ⟨i, -, hi, hk, hn2, h1⟩
    · rw [if_neg (by simp [h1]), wsm_congr (q := fun _ => false) n (fun j hj => by
        have := h2 j (Nat.zero_le _) hj
        simp only [decide_eq_false_iff_not]
        exact fun z => this ⟨z.1.symm, z.2.symm⟩), wsm_false]
    · rw [if_pos (by rw [h1]; simp [nI_m1 (n := i) (by omega)])]
      refine wsm_one hi (by simp [hk, hn2]) (fun j hj hq => ?_)
      simp only [decide_eq_true_eq] at hq
      exact hO j i hj hi (hq.1.symm.trans hk.symm) (hq.2.symm.trans hn2.symm)
  unfold m_compare k_compare
  rw [cmp_sim hsz hsz2 hR hR2 hG hO2 _ 0 0 0 rfl (by omega) rfl rfl, miss_cnt ks ns sz ks2 ns2 sz2 _ 0 0 rfl (by omega) rfl, miss_cnt ks2 ns2 sz2 ks ns sz _ 0 0 rfl (by omega) rfl, chg_cnt ks ns us sz ks2 ns2 us2 sz2 _ 0 0 rfl (by omega) rfl]
  have e1 : wsm (fun _ => 1) (fun k => !decide (k_indexOf ks2 ns2 (ks k) (ns k) sz2 0 = -1)) sz = wsm (fun _ => 1) (fun o => !decide (k_indexOf ks ns (ks2 o) (ns2 o) sz 0 = -1)) sz2 := by
    have s := wsm_swap (fun k o => decide (ks k = ks2 o ∧ ns k = ns2 o)) sz2 sz
    rw [wsm_fcongr sz (fun k _ => idx ks2 ns2 sz2 hO2 (ks k) (ns k) hsz2)] at s
    rw [wsm_fcongr (g := fun o => if (!decide (k_indexOf ks ns (ks2 o) (ns2 o) sz 0 = -1)) = true then 1 else 0) sz2 (fun o _ => by
      rw [← idx ks ns sz hO (ks2 o) (ns2 o) hsz]
      exact wsm_congr sz (fun k _ => by rw [decide_eq_decide]; exact ⟨fun z => ⟨z.1.symm, z.2.symm⟩, fun z => ⟨z.1.symm, z.2.symm⟩⟩))] at s
    rw [wsm_true (fun _ => 1), wsm_true (fun _ => 1)] at s
    exact s
  have e2 := wsm_not (fun o => decide (k_indexOf ks ns (ks2 o) (ns2 o) sz 0 = -1)) sz2
  rw [e1]
  show nI (_ + sz2) - nI _ = _
  rw [pk_sub (by omega)]
  congr 1
  omega
