/-! THE LIST OF WHAT IS BAD -/
def blr (h : Nat → Bool) (wh : Nat) : Nat → Nat → List Nat
  | 0, _ => []
  | m + 1, k => if h k = true then (10 * k + wh) :: blr h wh m (k + 1) else blr h wh m (k + 1)
def bla (h : Nat → Nat → Bool) (n : Nat) : Nat → Nat → List Nat
  | 0, _ => []
  | m + 1, wh => blr (fun k => h k wh) wh n 0 ++ bla h n m (wh + 1)
theorem blr_congr {h h' : Nat → Bool} {wh : Nat} : ∀ m k, (∀ j, k ≤ j → j < k + m → h j = h' j) → blr h wh m k = blr h' wh m k := by
  intro m
  induction m with
  | zero => intro k _; rfl
  | succ m ih =>
    intro k he
    show (if h k = true then _ else _) = if h' k = true then _ else _
    rw [he k (Nat.le_refl _) (by omega), ih (k + 1) (fun j h1 h2 => he j (by omega) (by omega))]
theorem bla_congr {h h' : Nat → Nat → Bool} {n : Nat} (he : ∀ k, k < n → ∀ r, h k r = h' k r) : ∀ m wh, bla h n m wh = bla h' n m wh := by
  intro m
  induction m with
  | zero => intro wh; rfl
  | succ m ih =>
    intro wh
    show blr (fun k => h k wh) wh n 0 ++ bla h n m (wh + 1) = blr (fun k => h' k wh) wh n 0 ++ bla h' n m (wh + 1)
    rw [ih (wh + 1), blr_congr n 0 (fun j h1 h2 => he j (by omega) wh)]
def cR (p : Nat → Bool) : Nat → Nat → Nat
  | 0, _ => 0
  | m + 1, k => (if p k = true then 1 else 0) + cR p m (k + 1)
theorem blr_len (h : Nat → Bool) (wh : Nat) : ∀ m k, (blr h wh m k).length = cR h m k := by
  intro m
  induction m with
  | zero => intro k; rfl
  | succ m ih =>
    intro k
    show (if h k = true then _ else _ : List Nat).length = (if h k = true then 1 else 0) + cR h m (k + 1)
    rw [← ih (k + 1)]
    split
    · rw [List.length_cons]; omega
    · omega
theorem cR_le (p : Nat → Bool) : ∀ m k, cR p m k ≤ m := by
  intro m
  induction m with
  | zero => intro k; exact Nat.le_refl _
  | succ m ih =>
    intro k
    have := ih (k + 1)
    show (if p k = true then 1 else 0) + cR p m (k + 1) ≤ m + 1
    split <;> omega
theorem cR_three (p q r : Nat → Bool) (h : ∀ k, (p k = true → q k = false ∧ r k = false) ∧ (q k = true → r k = false)) : ∀ m k, cR p m k + cR q m k + cR r m k ≤ m := by
  intro m
  induction m with
  | zero => intro k; exact Nat.le_refl _
  | succ m ih =>
    intro k
    have h1 := ih (k + 1)
    obtain ⟨h2, h3⟩ := h k
    show (if p k = true then 1 else 0) + cR p m (k + 1) + ((if q k = true then 1 else 0) + cR q m (k + 1)) + ((if r k = true then 1 else 0) + cR r m (k + 1)) ≤ m + 1
    cases hp : p k with
    | true =>
      obtain ⟨e1, e2⟩ := h2 hp
      rw [e1, e2]
      simp
      omega
    | false =>
      cases hq : q k with
      | true =>
        rw [h3 hq]
        simp
        omega
      | false =>
        cases hr : r k <;> simp <;> omega
theorem bla_len (ks us : Nat → Int32) (sz : Nat) (dp : Nat → Int32) (n : Nat) (hn : n ≤ 50) : (bla (fun k r => k_holds ks us sz dp r (nI k)) n 4 0).length ≤ 100 := by
  show (blr (fun k => k_holds ks us sz dp 0 (nI k)) 0 n 0 ++ (blr (fun k => k_holds ks us sz dp 1 (nI k)) 1 n 0 ++ (blr (fun k => k_holds ks us sz dp 2 (nI k)) 2 n 0 ++ (blr (fun k => k_holds ks us sz dp 3 (nI k)) 3 n 0 ++ [])))).length ≤ 100
  simp only [List.length_append, blr_len, List.length_nil]
  have h3 := cR_le (fun k => k_holds ks us sz dp 3 (nI k)) n 0
  have h := cR_three (fun k => k_holds ks us sz dp 0 (nI k)) (fun k => k_holds ks us sz dp 1 (nI k)) (fun k => k_holds ks us sz dp 2 (nI k)) (fun k => by
    have c1 : ∀ x : Int32, (x = 1 ∨ x = 2) → ¬ (x = 3 ∨ x = 5) ∧ ¬ x = 0 := by rintro x (rfl | rfl) <;> decide
    have c2 : ∀ x : Int32, (x = 3 ∨ x = 5) → ¬ x = 0 := by rintro x (rfl | rfl) <;> decide
    refine ⟨fun z => ?_, fun z => ?_⟩
    · have z : k_holds ks us sz dp 0 (nI k) = true := z
      rw [k_holds, if_pos rfl] at z
      split at z
      · rename_i hc
        obtain ⟨d1, d2⟩ := c1 _ hc
        refine ⟨?_, ?_⟩
        · show k_holds ks us sz dp 1 (nI k) = false
          rw [k_holds, if_neg (by decide), if_pos rfl, if_neg d1]
        · show k_holds ks us sz dp 2 (nI k) = false
          rw [k_holds, if_neg (by decide), if_neg (by decide), if_pos rfl, if_neg d2]
      · cases z
    · have z : k_holds ks us sz dp 1 (nI k) = true := z
      rw [k_holds, if_neg (by decide), if_pos rfl] at z
      split at z
      · rename_i hc
        show k_holds ks us sz dp 2 (nI k) = false
        rw [k_holds, if_neg (by decide), if_neg (by decide), if_pos rfl, if_neg (c2 _ hc)]
      · cases z) n 0
  omega
theorem badIn_sim (td : Nat → Int32) (pn : Nat) (dp : Nat → Int32) (wh : Nat) : ∀ m k l, pn - k = m → l < 2 ^ 31 →
    (∀ v, (blr (fun k => m_isBad td pn dp k wh) wh m k)[l]? = some v → (m_badIn td pn dp wh k (nI l)).1 = some v) ∧ ((blr (fun k => m_isBad td pn dp k wh) wh m k)[l]? = none → m_badIn td pn dp wh k (nI l) = (none, nI (l - (blr (fun k => m_isBad td pn dp k wh) wh m k).length))) := by
  intro m
  induction m with
  | zero =>
    intro k l hm hl
    refine ⟨fun v h => by simp [blr] at h, fun _ => ?_⟩
    rw [m_badIn, if_neg (by omega)]
    rfl
  | succ m ih =>
    intro k l hm hl
    by_cases hb : m_isBad td pn dp k wh = true
    · have eL : blr (fun k => m_isBad td pn dp k wh) wh (m + 1) k = (10 * k + wh) :: blr (fun k => m_isBad td pn dp k wh) wh m (k + 1) := by
        show (if m_isBad td pn dp k wh = true then _ else _) = _
        rw [if_pos hb]
      rw [eL, m_badIn, if_pos (by omega), if_pos hb]
      cases l with
      | zero =>
        rw [if_pos (by decide)]
        refine ⟨fun v h => ?_, fun h => ?_⟩
        · simpa using h
        · simp at h
      | succ l =>
        rw [if_neg (nI_ne0 (by omega) (by omega)), nI_pred]
        obtain ⟨h1, h2⟩ := ih (k + 1) l (by omega) (by omega)
        refine ⟨fun v h => h1 v (by simpa using h), fun h => ?_⟩
        rw [h2 (by simpa using h), List.length_cons]
        congr 2
        omega
    · have eL : blr (fun k => m_isBad td pn dp k wh) wh (m + 1) k = blr (fun k => m_isBad td pn dp k wh) wh m (k + 1) := by
        show (if m_isBad td pn dp k wh = true then _ else _) = _
        rw [if_neg hb]
      rw [eL, m_badIn, if_pos (by omega), if_neg hb, show nI l - 0 = nI l from pk_sub (a := l) (b := 0) (Nat.zero_le _)]
      exact ih (k + 1) l (by omega) hl
theorem badOut_sim (td : Nat → Int32) (pn : Nat) (dp : Nat → Int32) (i : Int32) : ∀ m wh l, 4 - wh = m → l < 2 ^ 31 →
    (∀ v, (bla (fun k r => m_isBad td pn dp k r) pn m wh)[l]? = some v → m_badOut td pn dp i wh (nI l) = nI v) ∧ ((bla (fun k r => m_isBad td pn dp k r) pn m wh)[l]? = none → m_badOut td pn dp i wh (nI l) = nI (l - (bla (fun k r => m_isBad td pn dp k r) pn m wh).length) - i - 1) := by
  intro m
  induction m with
  | zero =>
    intro wh l hm hl
    refine ⟨fun v h => by simp [bla] at h, fun _ => ?_⟩
    rw [m_badOut, if_neg (by omega)]
    rfl
  | succ m ih =>
    intro wh l hm hl
    have eL : bla (fun k r => m_isBad td pn dp k r) pn (m + 1) wh = blr (fun k => m_isBad td pn dp k wh) wh pn 0 ++ bla (fun k r => m_isBad td pn dp k r) pn m (wh + 1) := rfl
    have hI := badIn_sim td pn dp wh pn 0 l (by omega) hl
    rw [eL, m_badOut, if_pos (by omega)]
    generalize blr (fun k => m_isBad td pn dp k wh) wh pn 0 = A at hI
    by_cases hlt : l < A.length
    · have hs : A[l]? = some A[l] := List.getElem?_eq_getElem hlt
      have h1 := hI.1 _ hs
      rcases hB : m_badIn td pn dp wh 0 (nI l) with ⟨o, x⟩
      rw [hB] at h1
      have h1 : o = some A[l] := h1
      subst h1
      dsimp only
      rw [List.getElem?_append_left hlt, hs]
      exact ⟨fun v h => by rw [Option.some.inj h], fun h => by cases h⟩
    · have hs : A[l]? = none := List.getElem?_eq_none (by omega)
      rw [hI.2 hs]
      dsimp only
      obtain ⟨h1, h2⟩ := ih (wh + 1) (l - A.length) (by omega) (by omega)
      rw [List.getElem?_append_right (by omega)]
      refine ⟨h1, fun h => ?_⟩
      rw [h2 h, List.length_append, Nat.sub_sub]
theorem addAll_sim (ks us : Nat → Int32) (sz : Nat) (dp : Nat → Int32) (r : Nat) : ∀ m k (en : Nat → Int32) (bn : Nat), sz - k = m → bn + (blr (fun k => k_holds ks us sz dp r (nI k)) r m k).length ≤ 100 →
    (k_addAll ks us sz dp r k en bn).2 = bn + (blr (fun k => k_holds ks us sz dp r (nI k)) r m k).length ∧ (∀ j, j < bn → (k_addAll ks us sz dp r k en bn).1 j = en j) ∧ ∀ t v, (blr (fun k => k_holds ks us sz dp r (nI k)) r m k)[t]? = some v → (k_addAll ks us sz dp r k en bn).1 (bn + t) = nI v := by
  intro m
  induction m with
  | zero =>
    intro k en bn hm hl
    rw [k_addAll, if_neg (by omega)]
    exact ⟨rfl, fun _ _ => rfl, fun t v h => by simp [blr] at h⟩
  | succ m ih =>
    intro k en bn hm hl
    by_cases hb : k_holds ks us sz dp r (nI k) = true
    · have eL : blr (fun k => k_holds ks us sz dp r (nI k)) r (m + 1) k = (10 * k + r) :: blr (fun k => k_holds ks us sz dp r (nI k)) r m (k + 1) := by
        show (if k_holds ks us sz dp r (nI k) = true then _ else _) = _
        rw [if_pos hb]
      rw [eL] at hl ⊢
      rw [List.length_cons] at hl ⊢
      rw [k_addAll, if_pos (by omega), if_pos (by omega), if_pos hb]
      obtain ⟨h1, h2, h3⟩ := ih (k + 1) (upd en bn (nI (10 * k + r))) (bn + 1) (by omega) (by omega)
      refine ⟨by rw [h1]; omega, fun j hj => ?_, fun t v h => ?_⟩
      · rw [h2 j (by omega), pk_un (by omega)]
      · cases t with
        | zero =>
          have : 10 * k + r = v := by simpa using h
          rw [← this]
          show (k_addAll ks us sz dp r (k + 1) (upd en bn (nI (10 * k + r))) (bn + 1)).1 bn = nI (10 * k + r)
          rw [h2 bn (by omega), pk_us]
        | succ t =>
          rw [show bn + (t + 1) = bn + 1 + t by omega]
          exact h3 t v (by simpa using h)
    · have eL : blr (fun k => k_holds ks us sz dp r (nI k)) r (m + 1) k = blr (fun k => k_holds ks us sz dp r (nI k)) r m (k + 1) := by
        show (if k_holds ks us sz dp r (nI k) = true then _ else _) = _
        rw [if_neg hb]
      rw [eL] at hl ⊢
      have e : k_addAll ks us sz dp r k en bn = k_addAll ks us sz dp r (k + 1) en bn := by
        rw [k_addAll, if_pos (by omega)]
        simp [hb]
      rw [e]
      exact ih (k + 1) en bn (by omega) hl
theorem reasons_sim (ks us : Nat → Int32) (sz : Nat) (dp : Nat → Int32) : ∀ m r (en : Nat → Int32) (bn : Nat), 4 - r = m → bn + (bla (fun k r => k_holds ks us sz dp r (nI k)) sz m r).length ≤ 100 →
    (k_reasons ks us sz dp r en bn).2 = bn + (bla (fun k r => k_holds ks us sz dp r (nI k)) sz m r).length ∧ (∀ j, j < bn → (k_reasons ks us sz dp r en bn).1 j = en j) ∧ ∀ t v, (bla (fun k r => k_holds ks us sz dp r (nI k)) sz m r)[t]? = some v → (k_reasons ks us sz dp r en bn).1 (bn + t) = nI v := by
  intro m
  induction m with
  | zero =>
    intro r en bn hm hl
    rw [k_reasons, if_neg (by omega)]
    exact ⟨rfl, fun _ _ => rfl, fun t v h => by simp [bla] at h⟩
  | succ m ih =>
    intro r en bn hm hl
    have eL : bla (fun k r => k_holds ks us sz dp r (nI k)) sz (m + 1) r = blr (fun k => k_holds ks us sz dp r (nI k)) r sz 0 ++ bla (fun k r => k_holds ks us sz dp r (nI k)) sz m (r + 1) := rfl
    rw [eL] at hl ⊢
    rw [List.length_append] at hl ⊢
    have hA := addAll_sim ks us sz dp r sz 0 en bn (by omega) (by omega)
    rw [k_reasons, if_pos (by omega)]
    generalize blr (fun k => k_holds ks us sz dp r (nI k)) r sz 0 = A at hA hl
    rcases hE : k_addAll ks us sz dp r 0 en bn with ⟨en1, bn1⟩
    rw [hE] at hA
    obtain ⟨a1, a2, a3⟩ := hA
    have a1 : bn1 = bn + A.length := a1
    subst a1
    dsimp only
    obtain ⟨h1, h2, h3⟩ := ih (r + 1) en1 (bn + A.length) (by omega) (by omega)
    refine ⟨by rw [h1]; omega, fun j hj => ?_, fun t v h => ?_⟩
    · rw [h2 j (by omega)]
      exact a2 j hj
    · by_cases ht : t < A.length
      · rw [List.getElem?_append_left ht] at h
        rw [h2 (bn + t) (by omega)]
        exact a3 t v h
      · rw [List.getElem?_append_right (by omega)] at h
        have := h3 (t - A.length) v h
        rw [show bn + A.length + (t - A.length) = bn + t by omega] at this
        exact this
/-- the list, as the class holds it -/
def badAs (ks us : Nat → Int32) (sz : Nat) (en : Nat → Int32) (bn : Nat) : Prop := ∃ dp0 : Nat → Int32, bn = (bla (fun k r => k_holds ks us sz (k_spread ks us sz 0 0 dp0) r (nI k)) sz 4 0).length ∧ ∀ t v, (bla (fun k r => k_holds ks us sz (k_spread ks us sz 0 0 dp0) r (nI k)) sz 4 0)[t]? = some v → en t = nI v
theorem badAs_of {ks us : Nat → Int32} {sz : Nat} (hsz : sz ≤ 50) {dp en dp1 en1 : Nat → Int32} {bn1 : Nat} (h : k_judgeAll ks us sz dp en = (dp1, en1, bn1)) : badAs ks us sz en1 bn1 := by
  unfold k_judgeAll at h
  have h2 := (Prod.mk.inj h).2
  have hl := bla_len ks us sz (k_spread ks us sz 0 0 dp) sz hsz
  obtain ⟨a1, a2, a3⟩ := reasons_sim ks us sz (k_spread ks us sz 0 0 dp) 4 0 en 0 rfl (by omega)
  rw [h2] at a1 a3
  refine ⟨dp, by simpa using a1, fun t v hv => ?_⟩
  have := a3 t v hv
  simpa using this
theorem badAs_nil (ks us : Nat → Int32) : badAs ks us 0 (fun _ => 0) 0 := ⟨fun _ => 0, rfl, fun t v h => by simp [bla, blr] at h⟩
set_option maxRecDepth 100000 in
theorem cnt_sim : ∀ L, L ≤ 200 → (-1 : Int32) - (nI (1000 - L) - 1000 - 1) = nI L := by decide +kernel
section BS
theorem bad_list {ks ns us td : Nat → Int32} {sz : Nat} (hsz : sz ≤ 50) (hR : rowsAt ks ns us sz td 0) (hG : goodAt ks ns us sz) {en : Nat → Int32} {bn : Nat} (hB : badAs ks us sz en bn) (dm : Nat → Int32) :
    bn ≤ 100 ∧ bn = (bla (fun k r => m_isBad td sz (m_goes td sz 0 0 dm) k r) sz 4 0).length ∧ ∀ t v, (bla (fun k r => m_isBad td sz (m_goes td sz 0 0 dm) k r) sz 4 0)[t]? = some v → en t = nI v := by
  obtain ⟨dp0, h1, h2⟩ := hB
  have hl := bla_len ks us sz (k_spread ks us sz 0 0 dp0) sz hsz
  have he := spread_sim hsz hR hG 0 0 dp0 dm
  have e : bla (fun k r => k_holds ks us sz (k_spread ks us sz 0 0 dp0) r (nI k)) sz 4 0 = bla (fun k r => m_isBad td sz (m_goes td sz 0 0 dm) k r) sz 4 0 := bla_congr (fun k hk r => holds_sim hsz hR hG he hk r) 4 0
  rw [e] at h1 h2 hl
  exact ⟨by omega, h1, h2⟩
theorem bad_sim {ks ns us td : Nat → Int32} {sz : Nat} (hsz : sz ≤ 50) (hR : rowsAt ks ns us sz td 0) (hG : goodAt ks ns us sz) {en : Nat → Int32} {bn : Nat} (hB : badAs ks us sz en bn) (dm : Nat → Int32) : -1 - m_badAt td sz dm 1000 = nI bn := by
  obtain ⟨h0, h1, h2⟩ := bad_list hsz hR hG hB dm
  unfold m_badAt
  obtain ⟨a1, a2⟩ := badOut_sim td sz (m_goes td sz 0 0 dm) 1000 4 0 1000 rfl (by decide)
  rw [show (1000 : Int32) = nI 1000 from rfl] at a2 ⊢
  rw [a2 (List.getElem?_eq_none (by omega)), ← h1]
  exact cnt_sim bn (by omega)
theorem blr_mem {h : Nat → Bool} {wh : Nat} : ∀ m k v, v ∈ blr h wh m k → v < 10 * (k + m) + wh + 1 := by
  intro m
  induction m with
  | zero => intro k v hv; simp [blr] at hv
  | succ m ih =>
    intro k v hv
    have hv : v ∈ if h k = true then (10 * k + wh) :: blr h wh m (k + 1) else blr h wh m (k + 1) := hv
    split at hv
    · rcases List.mem_cons.mp hv with z | z
      · omega
      · have := ih (k + 1) v z
        omega
    · have := ih (k + 1) v hv
      omega
theorem bla_mem {h : Nat → Nat → Bool} {n : Nat} : ∀ m wh v, v ∈ bla h n m wh → v < 10 * n + wh + m := by
  intro m
  induction m with
  | zero => intro wh v hv; simp [bla] at hv
  | succ m ih =>
    intro wh v hv
    have hv : v ∈ blr (fun k => h k wh) wh n 0 ++ bla h n m (wh + 1) := hv
    rcases List.mem_append.mp hv with z | z
    · have := blr_mem n 0 v z
      omega
    · have := ih (wh + 1) v z
      omega
theorem i32_r (x y : Int32) : x - (x + y) - 1 = -y - 1 := by grind
theorem neg_b : ∀ b, b ≤ 100 → ¬ (0 : Int32) ≤ -nI b - 1 := by decide +kernel
theorem unj_sim {ks ns us td : Nat → Int32} {sz : Nat} (hsz : sz ≤ 50) (hR : rowsAt ks ns us sz td 0) (hG : goodAt ks ns us sz) {en : Nat → Int32} {bn : Nat} (hB : badAs ks us sz en bn) (dm : Nat → Int32) (i : Int32) : (m_unj td sz dm i).1 = k_get en bn i := by
  obtain ⟨h0, h1, h2⟩ := bad_list hsz hR hG hB dm
  unfold m_unj
  by_cases hi : 0 ≤ i
  · have hi' : ¬ i < 0 := fun z => by
      rw [Int32.lt_iff_toInt_lt] at z
      rw [Int32.le_iff_toInt_le] at hi
      omega
    rw [if_pos hi]
    by_cases hn : nI bn ≤ i
    · have e : k_get en bn i = -1 := by rw [k_get, if_neg hi', if_pos hn]
      rw [e]
      have hneg : ¬ 0 ≤ m_badAt td sz dm i := by
        obtain ⟨j, hj, e2⟩ := nI_of hi'
        subst e2
        have hj2 : bn ≤ j := (nI_leI (by omega) hj).mp hn
        unfold m_badAt
        obtain ⟨a1, a2⟩ := badOut_sim td sz (m_goes td sz 0 0 dm) (nI j) 4 0 j rfl hj
        rw [a2 (List.getElem?_eq_none (by omega)), ← h1]
        have e5 : nI j = nI (j - bn) + nI bn := by rw [nI_add, Nat.sub_add_cancel hj2]
        rw [e5, i32_r]
        exact neg_b bn h0
      rw [if_neg hneg]
    · obtain ⟨j, hj, e2⟩ := nat_of (n := bn) (by omega) hi' hn
      subst e2
      rw [k_get_at hj (by omega)]
      have hj3 : j < (bla (fun k r => m_isBad td sz (m_goes td sz 0 0 dm) k r) sz 4 0).length := by omega
      have hs := List.getElem?_eq_getElem hj3
      have e3 := h2 j _ hs
      obtain ⟨a1, a2⟩ := badOut_sim td sz (m_goes td sz 0 0 dm) (nI j) 4 0 j rfl (by omega)
      have e4 : m_badAt td sz dm (nI j) = _ := a1 _ hs
      have hv := bla_mem 4 0 _ (List.getElem_mem hj3)
      rw [e4, if_pos (nI_pos' (by omega)), e3]
  · rw [if_neg hi]
    have hi' : i < 0 := by
      rw [Int32.lt_iff_toInt_lt]
      rw [Int32.le_iff_toInt_le] at hi
      exact Int.lt_of_not_ge hi
    rw [k_get, if_pos hi']
end BS
