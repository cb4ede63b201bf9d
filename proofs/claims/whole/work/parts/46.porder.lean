/-! THE PRINTED ORDER -/
def wsm (f : Nat → Nat) (p : Nat → Bool) : Nat → Nat
  | 0 => 0
  | n + 1 => wsm f p n + if p n = true then f n else 0
theorem wsm_congr {f : Nat → Nat} {p q : Nat → Bool} : ∀ n, (∀ j, j < n → p j = q j) → wsm f p n = wsm f q n := by
  intro n
  induction n with
  | zero => intro _; rfl
  | succ n ih => intro h; show wsm f p n + (if p n = true then f n else 0) = wsm f q n + if q n = true then f n else 0; rw [ih (fun j hj => h j (by omega)), h n (by omega)]
theorem wsm_le {p : Nat → Bool} : ∀ n, wsm (fun _ => 1) p n ≤ n := by
  intro n
  induction n with
  | zero => exact Nat.le_refl _
  | succ n ih => show wsm (fun _ => 1) p n + (if p n = true then 1 else 0) ≤ n + 1; split <;> omega
theorem wsm_full {p : Nat → Bool} : ∀ n, wsm (fun _ => 1) p n = n → ∀ j, j < n → p j = true := by
  intro n
  induction n with
  | zero => intro _ j hj; exact absurd hj (Nat.not_lt_zero _)
  | succ n ih =>
    intro h j hj
    have h : wsm (fun _ => 1) p n + (if p n = true then 1 else 0) = n + 1 := h
    have hl := wsm_le (p := p) n
    cases hp : p n with
    | false => rw [hp] at h; simp at h; omega
    | true =>
      rw [hp] at h
      by_cases hjn : j = n
      · rw [hjn]; exact hp
      · exact ih (by simp at h; omega) j (by omega)
theorem wsm_add {f : Nat → Nat} {p q : Nat → Bool} {i : Nat} (hp : p i = false) (hq : q i = true) : ∀ n, (∀ j, j < n → j ≠ i → q j = p j) → wsm f q n = wsm f p n + if i < n then f i else 0 := by
  intro n
  induction n with
  | zero => intro _; rfl
  | succ n ih =>
    intro h
    show wsm f q n + (if q n = true then f n else 0) = wsm f p n + (if p n = true then f n else 0) + _
    rw [ih (fun j hj => h j (by omega))]
    by_cases hin : n = i
    · subst hin
      rw [hp, hq, if_neg (Nat.lt_irrefl n), if_pos rfl, if_neg (show ¬ false = true by decide), if_pos (show n < n + 1 by omega)]
    · rw [h n (by omega) hin]
      by_cases h1 : i < n
      · rw [if_pos h1, if_pos (show i < n + 1 by omega)]; omega
      · rw [if_neg h1, if_neg (show ¬ i < n + 1 by omega)]; omega
theorem wsm_lt {p q : Nat → Bool} {i n : Nat} (hi : i < n) (hp : p i = false) (hq : q i = true) (h : ∀ j, j < n → p j = true → q j = true) : wsm (fun _ => 1) p n < wsm (fun _ => 1) q n := by
  have gen : ∀ m, m ≤ n → wsm (fun _ => 1) p m + (if i < m then 1 else 0) ≤ wsm (fun _ => 1) q m := by
    intro m
    induction m with
    | zero => intro _; exact Nat.le_refl _
    | succ m ih =>
      intro hm
      have h1 := ih (by omega)
      show wsm (fun _ => 1) p m + (if p m = true then 1 else 0) + _ ≤ wsm (fun _ => 1) q m + if q m = true then 1 else 0
      by_cases him : m = i
      · subst him
        rw [hp, hq, if_pos (show m < m + 1 by omega)]
        rw [if_neg (Nat.lt_irrefl m)] at h1
        simp
        omega
      · by_cases h2 : i < m
        · rw [if_pos (show i < m + 1 by omega)]
          rw [if_pos h2] at h1
          cases hpm : p m with
          | true => rw [h m (by omega) hpm]; simp; omega
          | false => cases q m <;> simp <;> omega
        · rw [if_neg (show ¬ i < m + 1 by omega)]
          rw [if_neg h2] at h1
          cases hpm : p m with
          | true => rw [h m (by omega) hpm]; simp; omega
          | false => cases q m <;> simp <;> omega
  have := gen n (Nat.le_refl _)
  rw [if_pos hi] at this
  omega
def rk (ks ns : Nat → Int32) (k : Nat) : Nat := (ks k).toNatClampNeg * 100 + (ns k).toNatClampNeg
section OR
theorem rk_val {ks ns us : Nat → Int32} {sz k : Nat} (hG : goodAt ks ns us sz) (hk : k < sz) : ks k * 100 + ns k = nI (rk ks ns k) ∧ rk ks ns k < 600 := by
  obtain ⟨⟨a, ha, ea⟩, ⟨b, hb, eb⟩, -⟩ := hG k hk
  unfold rk
  rw [ea, eb, nI_clamp (by omega), nI_clamp (by omega)]
  refine ⟨?_, by omega⟩
  rw [← nI_add, ← pk_mul]
  rfl
theorem rk_inj {ks ns us : Nat → Int32} {sz i j : Nat} (hG : goodAt ks ns us sz) (hO : onceAt ks ns sz) (hi : i < sz) (hj : j < sz) (h : rk ks ns i = rk ks ns j) : i = j := by
  obtain ⟨⟨a, ha, ea⟩, ⟨b, hb, eb⟩, -⟩ := hG i hi
  obtain ⟨⟨a', ha', ea'⟩, ⟨b', hb', eb'⟩, -⟩ := hG j hj
  unfold rk at h
  rw [ea, eb, ea', eb', nI_clamp (by omega), nI_clamp (by omega), nI_clamp (by omega), nI_clamp (by omega)] at h
  refine hO i j hi hj ?_ ?_
  · rw [ea, ea', show a = a' by omega]
  · rw [eb, eb', show b = b' by omega]
theorem k_rank_at {ks ns us : Nat → Int32} {sz k : Nat} (hsz : sz ≤ 50) (hG : goodAt ks ns us sz) (hk : k < sz) : k_rank ks ns sz (nI k) = nI (rk ks ns k) := by
  unfold k_rank
  rw [k_get_at hk (by omega), k_get_at hk (by omega)]
  exact (rk_val hG hk).1
theorem m_rank_at {ks ns us td : Nat → Int32} {sz k : Nat} (hR : rowsAt ks ns us sz td 0) (hG : goodAt ks ns us sz) (hk : k < sz) : m_rank td k = nI (rk ks ns k) := by
  unfold m_rank
  rw [(rows0 hR hk).1, (rows0 hR hk).2.1, Int32.mul_comm]
  exact (rk_val hG hk).1
theorem ahead_at {ks ns us td : Nat → Int32} {sz i : Nat} (hR : rowsAt ks ns us sz td 0) (hG : goodAt ks ns us sz) (hi : i < sz) : ∀ m j a, sz - j = m → j ≤ sz → a = wsm (fun _ => 1) (fun x => decide (rk ks ns x < rk ks ns i)) j → m_ahead td sz i j a = wsm (fun _ => 1) (fun x => decide (rk ks ns x < rk ks ns i)) sz := by
  intro m
  induction m with
  | zero => intro j a hm hj ha; rw [m_ahead, if_neg (by omega), ha, show j = sz by omega]
  | succ m ih =>
    intro j a hm hj ha
    have r1 := (rk_val hG hi).2
    have r2 := (rk_val hG (show j < sz by omega)).2
    rw [m_ahead, if_pos (by omega), m_rank_at hR hG hi, m_rank_at hR hG (by omega)]
    by_cases h : rk ks ns j < rk ks ns i
    · rw [if_neg (nI_ge h (by omega))]
      refine ih (j + 1) (a + 1) (by omega) (by omega) ?_
      show a + 1 = wsm _ _ j + if decide (rk ks ns j < rk ks ns i) = true then 1 else 0
      rw [if_pos (by simpa using h), ha]
    · rw [if_pos (nI_le (by omega) (by omega))]
      refine ih (j + 1) (a + 0) (by omega) (by omega) ?_
      show a + 0 = wsm _ _ j + if decide (rk ks ns j < rk ks ns i) = true then 1 else 0
      rw [if_neg (by simpa using h), ha]
theorem order_at {ks ns us td : Nat → Int32} {sz i0 w : Nat} (hsz : sz ≤ 50) (hR : rowsAt ks ns us sz td 0) (hG : goodAt ks ns us sz) (hO : onceAt ks ns sz) (hi : i0 < sz) (hw : wsm (fun _ => 1) (fun x => decide (rk ks ns x < rk ks ns i0)) sz = w) : m_order td sz (nI w) 0 0 = i0 := by
  have hw50 : w ≤ sz := by rw [← hw]; exact wsm_le sz
  have hu : ∀ j, j < sz → wsm (fun _ => 1) (fun x => decide (rk ks ns x < rk ks ns j)) sz = w → j = i0 := by
    intro j hj h
    have hm : ∀ a b, rk ks ns a < rk ks ns b → ∀ x, decide (rk ks ns x < rk ks ns a) = true → decide (rk ks ns x < rk ks ns b) = true := fun a b hab x hx => by
      simp only [decide_eq_true_eq] at hx ⊢
      omega
    rcases Nat.lt_trichotomy (rk ks ns j) (rk ks ns i0) with z | z | z
    · have := wsm_lt (p := fun x => decide (rk ks ns x < rk ks ns j)) (q := fun x => decide (rk ks ns x < rk ks ns i0)) hj (by simp) (by simpa using z) (fun x _ hx => hm j i0 z x hx)
      omega
    · exact rk_inj hG hO hj hi z
    · have := wsm_lt (p := fun x => decide (rk ks ns x < rk ks ns i0)) (q := fun x => decide (rk ks ns x < rk ks ns j)) hi (by simp) (by simpa using z) (fun x _ hx => hm i0 j z x hx)
      omega
  have gen : ∀ m i f, sz - i = m → i ≤ sz → m_order td sz (nI w) i f = if i ≤ i0 then i0 else f := by
    intro m
    induction m with
    | zero => intro i f hm hi2; rw [m_order, if_neg (by omega), if_neg (by omega)]
    | succ m ih =>
      intro i f hm hi2
      have hl := wsm_le (p := fun x => decide (rk ks ns x < rk ks ns i)) sz
      rw [m_order, if_pos (by omega), ahead_at hR hG (show i < sz by omega) _ 0 0 rfl (by omega) rfl]
      by_cases h : wsm (fun _ => 1) (fun x => decide (rk ks ns x < rk ks ns i)) sz = w
      · have e := hu i (by omega) h
        rw [if_pos (by rw [h]), ih (i + 1) i (by omega) (by omega), if_neg (by omega), if_pos (by omega), e]
      · rw [if_neg (fun z => h ((nI_eq (by omega) (by omega)).mp z)), ih (i + 1) f (by omega) (by omega)]
        have hne : i ≠ i0 := fun z => h (by rw [z]; exact hw)
        by_cases h2 : i ≤ i0
        · rw [if_pos (by omega), if_pos h2]
        · rw [if_neg (by omega), if_neg h2]
  rw [gen _ 0 0 rfl (by omega), if_pos (Nat.zero_le _)]
theorem thr_le {r t : Nat} (hr : r < 600) (ht : t ≤ 600) : nI r ≤ nI t - 1 ↔ r < t := by
  cases t with
  | zero =>
    constructor
    · intro h
      exfalso
      have h2 : nI r ≤ (-1 : Int32) := h
      have h3 := nI_pos (n := r) (by omega)
      rw [Int32.le_iff_toInt_le] at h2
      rw [Int32.lt_iff_toInt_lt] at h3
      exact h3 (Int.lt_of_le_of_lt h2 (by decide))
    · intro h; exact absurd h (Nat.not_lt_zero _)
  | succ t =>
    rw [nI_pred, nI_leI (by omega) (by omega)]
    omega
theorem next_at {ks ns us : Nat → Int32} {sz t : Nat} (hsz : sz ≤ 50) (hG : goodAt ks ns us sz) (ht : t ≤ 600) : ∀ m k (nx : Int32), sz - k = m → k ≤ sz →
    ((nx = -1 ∧ ∀ j, j < k → rk ks ns j < t) ∨ (∃ i, i < k ∧ nx = nI i ∧ t ≤ rk ks ns i ∧ ∀ j, j < k → rk ks ns j < t ∨ rk ks ns i ≤ rk ks ns j)) →
    (k_next ks ns sz (nI t - 1) k nx = -1 ∧ ∀ j, j < sz → rk ks ns j < t) ∨ (∃ i, i < sz ∧ k_next ks ns sz (nI t - 1) k nx = nI i ∧ t ≤ rk ks ns i ∧ ∀ j, j < sz → rk ks ns j < t ∨ rk ks ns i ≤ rk ks ns j) := by
  intro m
  induction m with
  | zero =>
    intro k nx hm hk h
    have e : k = sz := by omega
    subst e
    rw [k_next, if_neg (by omega)]
    exact h
  | succ m ih =>
    intro k nx hm hk h
    have hk2 : k < sz := by omega
    have hr := (rk_val hG hk2).2
    rw [k_next, if_pos hk2, k_rank_at hsz hG hk2]
    by_cases h1 : rk ks ns k < t
    · rw [if_pos ((thr_le hr ht).mpr h1)]
      refine ih (k + 1) nx (by omega) (by omega) ?_
      rcases h with ⟨a1, a2⟩ | ⟨i, a1, a2, a3, a4⟩
      · refine Or.inl ⟨a1, fun j hj => ?_⟩
        by_cases hjk : j = k
        · rw [hjk]; exact h1
        · exact a2 j (by omega)
      · refine Or.inr ⟨i, by omega, a2, a3, fun j hj => ?_⟩
        by_cases hjk : j = k
        · rw [hjk]; exact Or.inl h1
        · exact a4 j (by omega)
    · rw [if_neg (fun z => h1 ((thr_le hr ht).mp z))]
      rcases h with ⟨a1, a2⟩ | ⟨i, a1, a2, a3, a4⟩
      · rw [if_pos a1]
        refine ih (k + 1) (nI k) (by omega) (by omega) (Or.inr ⟨k, by omega, rfl, by omega, fun j hj => ?_⟩)
        by_cases hjk : j = k
        · rw [hjk]; exact Or.inr (Nat.le_refl _)
        · exact Or.inl (a2 j (by omega))
      · have hri := (rk_val hG (show i < sz by omega)).2
        rw [a2, if_neg (nI_m1 (by omega)), k_rank_at hsz hG (by omega)]
        by_cases h2 : rk ks ns i ≤ rk ks ns k
        · rw [if_pos (nI_le h2 (by omega))]
          refine ih (k + 1) (nI i) (by omega) (by omega) (Or.inr ⟨i, by omega, rfl, a3, fun j hj => ?_⟩)
          by_cases hjk : j = k
          · rw [hjk]; exact Or.inr h2
          · exact a4 j (by omega)
        · rw [if_neg (nI_ge (by omega) (by omega))]
          refine ih (k + 1) (nI k) (by omega) (by omega) (Or.inr ⟨k, by omega, rfl, by omega, fun j hj => ?_⟩)
          by_cases hjk : j = k
          · rw [hjk]; exact Or.inr (Nat.le_refl _)
          · rcases a4 j (by omega) with z | z
            · exact Or.inl z
            · exact Or.inr (by omega)
theorem wsm_psm (ks ns us : Nat → Int32) {p : Nat → Bool} : ∀ n, (∀ j, j < n → p j = true) → wsm (plen ks ns us) p n = psm ks ns us n := by
  intro n
  induction n with
  | zero => intro _; rfl
  | succ n ih => intro h; show wsm _ p n + (if p n = true then plen ks ns us n else 0) = psm ks ns us n + plen ks ns us n; rw [ih (fun j hj => h j (by omega)), if_pos (h n (by omega))]
theorem wsm_psm_le (ks ns us : Nat → Int32) {p : Nat → Bool} : ∀ n, wsm (plen ks ns us) p n ≤ psm ks ns us n := by
  intro n
  induction n with
  | zero => exact Nat.le_refl _
  | succ n ih => show wsm _ p n + (if p n = true then plen ks ns us n else 0) ≤ psm ks ns us n + plen ks ns us n; split <;> omega
theorem m_len_at {ks ns us td : Nat → Int32} {sz i : Nat} (hR : rowsAt ks ns us sz td 0) (hG : goodAt ks ns us sz) (hi : i < sz) : m_len td i = plen ks ns us i := by
  unfold m_len
  rw [prints_put hR hG hi, put_len, rtx_len, Nat.zero_add]
def ptext (ks ns us td : Nat → Int32) (sz : Nat) (ot : Nat → Int32) (w : Nat) : Prop := ∀ v, v < w → m_order td sz (nI v) 0 0 < sz ∧ ∀ t x, (rtx ks ns us (m_order td sz (nI v) 0 0))[t]? = some x → ot (m_psum td sz v + t) = x
theorem write_at {ks ns us td : Nat → Int32} {sz : Nat} (hsz : sz ≤ 50) (hR : rowsAt ks ns us sz td 0) (hG : goodAt ks ns us sz) (hO : onceAt ks ns sz) (hS : psm ks ns us sz ≤ 500) : ∀ m w t (ot : Nat → Int32) (ol : Nat), sz - w = m → w ≤ sz → t ≤ 600 → wsm (fun _ => 1) (fun x => decide (rk ks ns x < t)) sz = w → ol = wsm (plen ks ns us) (fun x => decide (rk ks ns x < t)) sz → ol = m_psum td sz w → ptext ks ns us td sz ot w →
    (k_writeF ks ns us sz (nI t - 1) w ot ol).2 = psm ks ns us sz ∧ (k_writeF ks ns us sz (nI t - 1) w ot ol).2 = m_psum td sz sz ∧ ptext ks ns us td sz (k_writeF ks ns us sz (nI t - 1) w ot ol).1 sz := by
  intro m
  induction m with
  | zero =>
    intro w t ot ol hm hw ht h1 h2 h3 h4
    have e : w = sz := by omega
    subst e
    rw [k_writeF, if_neg (by omega)]
    refine ⟨?_, h3, h4⟩
    show ol = _
    rw [h2]
    exact wsm_psm ks ns us w (wsm_full w h1)
  | succ m ih =>
    intro w t ot ol hm hw ht h1 h2 h3 h4
    have hw2 : w < sz := by omega
    rcases next_at hsz hG ht _ 0 (-1) rfl (by omega) (Or.inl ⟨rfl, fun j hj => absurd hj (Nat.not_lt_zero _)⟩) with ⟨n1, n2⟩ | ⟨i, hi, n1, n2, n3⟩
    · exfalso
      have : wsm (fun _ => 1) (fun x => decide (rk ks ns x < t)) sz = sz := by
        rw [wsm_congr (q := fun _ => true) sz (fun j hj => by simpa using n2 j hj)]
        have g : ∀ n, wsm (fun _ => 1) (fun _ => true) n = n := by
          intro n
          induction n with
          | zero => rfl
          | succ n ih => show wsm _ _ n + (if true = true then 1 else 0) = n + 1; rw [ih]; rfl
        exact g sz
      omega
    · have hr := (rk_val hG hi).2
      have hp : ∀ f : Nat → Nat, wsm f (fun x => decide (rk ks ns x < rk ks ns i)) sz = wsm f (fun x => decide (rk ks ns x < t)) sz := fun f => wsm_congr sz (fun j hj => by
        have := n3 j hj
        rw [decide_eq_decide]
        omega)
      have ha : ∀ f : Nat → Nat, wsm f (fun x => decide (rk ks ns x < rk ks ns i + 1)) sz = wsm f (fun x => decide (rk ks ns x < t)) sz + f i := fun f => by
        rw [wsm_add (p := fun x => decide (rk ks ns x < rk ks ns i)) (q := fun x => decide (rk ks ns x < rk ks ns i + 1)) (i := i) (by simp) (by simp) sz (fun j hj hji => by
          have hne : rk ks ns j ≠ rk ks ns i := fun z => hji (rk_inj hG hO hj hi z)
          rw [decide_eq_decide]
          omega), if_pos hi, hp]
      have hord : m_order td sz (nI w) 0 0 = i := order_at hsz hR hG hO hi ((hp _).trans h1)
      have hle : wsm (plen ks ns us) (fun x => decide (rk ks ns x < rk ks ns i + 1)) sz ≤ psm ks ns us sz := wsm_psm_le ks ns us sz
      have hal := ha (plen ks ns us)
      rw [k_writeF, if_pos hw2, n1, row_text hi hsz hG (by omega), k_rank_at hsz hG hi]
      have e1 : nI (rk ks ns i) = nI (rk ks ns i + 1) - 1 := (nI_pred _).symm
      rw [e1]
      show (k_writeF ks ns us sz (nI (rk ks ns i + 1) - 1) (w + 1) (put ot ol (rtx ks ns us i)).1 (put ot ol (rtx ks ns us i)).2).2 = _ ∧ _
      have el : (put ot ol (rtx ks ns us i)).2 = ol + plen ks ns us i := by rw [put_len, rtx_len]
      have ep : m_psum td sz (w + 1) = m_psum td sz w + plen ks ns us i := by
        show m_psum td sz w + m_len td (m_order td sz (nI w) 0 0) = _
        rw [hord, m_len_at hR hG hi]
      refine ih (w + 1) (rk ks ns i + 1) _ _ (by omega) (by omega) (by omega) ((ha _).trans (by rw [h1])) (by rw [el, h2, hal]) (by rw [el, ep, h3]) ?_
      intro v hv
      by_cases hvw : v = w
      · subst hvw
        rw [hord]
        refine ⟨hi, fun t' x hx => ?_⟩
        rw [← h3]
        exact put_new _ _ _ t' x hx
      · obtain ⟨q1, q2⟩ := h4 v (by omega)
        refine ⟨q1, fun t' x hx => ?_⟩
        have hlt : m_psum td sz v + t' < ol := by
          have a1 : t' < (rtx ks ns us (m_order td sz (nI v) 0 0)).length := (List.getElem?_eq_some_iff.mp hx).1
          rw [rtx_len, ← m_len_at hR hG q1] at a1
          have a2 := m_psum_mono td sz (show v + 1 ≤ w by omega)
          have a3 : m_psum td sz (v + 1) = m_psum td sz v + m_len td (m_order td sz (nI v) 0 0) := rfl
          omega
        rw [put_old _ _ _ _ hlt]
        exact q2 t' x hx
theorem length_at {ks ns us td : Nat → Int32} {sz : Nat} (hR : rowsAt ks ns us sz td 0) (hG : goodAt ks ns us sz) : ∀ m i n (pr : Nat → Int32), sz - i = m → i ≤ sz → n = psm ks ns us i → (m_length td sz i n pr).2 = psm ks ns us sz := by
  intro m
  induction m with
  | zero => intro i n pr hm hi hn; rw [m_length, if_neg (by omega), hn, show i = sz by omega]
  | succ m ih =>
    intro i n pr hm hi hn
    rw [m_length, if_pos (by omega), prints_put hR hG (show i < sz by omega)]
    show (m_length td sz (i + 1) (n + (put pr 0 (rtx ks ns us i)).2) (put pr 0 (rtx ks ns us i)).1).2 = _
    refine ih (i + 1) _ _ (by omega) (by omega) ?_
    rw [put_len, rtx_len, Nat.zero_add, hn]
    rfl
/-- the text, as the class holds it -/
def prAs (ks ns us : Nat → Int32) (sz : Nat) (ot : Nat → Int32) (ol : Nat) : Prop := ∃ ot0 : Nat → Int32, k_write ks ns us sz ot0 = (ot, ol)
theorem print_sim {ks ns us td : Nat → Int32} {sz : Nat} (hsz : sz ≤ 50) (hR : rowsAt ks ns us sz td 0) (hG : goodAt ks ns us sz) (hO : onceAt ks ns sz) (hS : psm ks ns us sz ≤ 500) {ot : Nat → Int32} {ol : Nat} (hP : prAs ks ns us sz ot ol) :
    ol = psm ks ns us sz ∧ ol = m_psum td sz sz ∧ ptext ks ns us td sz ot sz ∧ ∀ pr, (m_length td sz 0 0 pr).2 = ol := by
  obtain ⟨ot0, h⟩ := hP
  have h1 := write_at hsz hR hG hO hS sz 0 0 ot0 0 (by omega) (by omega) (by omega) (by
    have g : ∀ n, wsm (fun _ => 1) (fun x => decide (rk ks ns x < 0)) n = 0 := by
      intro n
      induction n with
      | zero => rfl
      | succ n ih => show wsm _ _ n + _ = 0; rw [ih]; simp
    exact g sz) (by
    have g : ∀ n, wsm (plen ks ns us) (fun x => decide (rk ks ns x < 0)) n = 0 := by
      intro n
      induction n with
      | zero => rfl
      | succ n ih => show wsm _ _ n + _ = 0; rw [ih]; simp
    exact (g sz).symm) rfl (fun v hv => absurd hv (Nat.not_lt_zero _))
  have e : k_writeF ks ns us sz (nI 0 - 1) 0 ot0 0 = (ot, ol) := h
  rw [e] at h1
  refine ⟨h1.1, h1.2.1, h1.2.2, fun pr => ?_⟩
  rw [length_at hR hG _ 0 0 pr rfl (by omega) rfl]
  exact h1.1.symm
theorem atF_sim {ks ns us td : Nat → Int32} {sz : Nat} (hR : rowsAt ks ns us sz td 0) (hG : goodAt ks ns us sz) {ot : Nat → Int32} (hT : ptext ks ns us td sz ot sz) {j : Nat} (hj : j < m_psum td sz sz) : ∀ f k left (pr : Nat → Int32), left + m_psum td sz k = j → k < sz → sz - k < f → (m_atF td sz f k left pr).1 = ot j := by
  intro f
  induction f with
  | zero => intro k left pr _ _ h; exact absurd h (Nat.not_lt_zero _)
  | succ f ih =>
    intro k left pr hl hk hf
    obtain ⟨q1, q2⟩ := hT k hk
    have e0 : m_atF td sz (f + 1) k left pr = if left < (m_prints td (m_order td sz (nI k) 0 0) pr).2 then ((m_prints td (m_order td sz (nI k) 0 0) pr).1 left, (m_prints td (m_order td sz (nI k) 0 0) pr).1) else m_atF td sz f (k + 1) (left - (m_prints td (m_order td sz (nI k) 0 0) pr).2) (m_prints td (m_order td sz (nI k) 0 0) pr).1 := rfl
    rw [e0]
    have el := m_prints_len td (m_order td sz (nI k) 0 0) pr
    by_cases h : left < (m_prints td (m_order td sz (nI k) 0 0) pr).2
    · rw [if_pos h]
      show (m_prints td (m_order td sz (nI k) 0 0) pr).1 left = ot j
      rw [prints_put hR hG q1] at h ⊢
      rw [put_len, Nat.zero_add] at h
      have hs := List.getElem?_eq_getElem h
      have a1 := put_new _ pr 0 left _ hs
      rw [Nat.zero_add] at a1
      rw [a1, ← hl, Nat.add_comm]
      exact (q2 left _ hs).symm
    · rw [if_neg h]
      obtain ⟨b1, b2⟩ := m_psum_lt hl el h hj
      exact ih (k + 1) _ _ b2 b1 (by omega)
theorem at_sim {ks ns us td : Nat → Int32} {sz : Nat} (hsz : sz ≤ 50) (hR : rowsAt ks ns us sz td 0) (hG : goodAt ks ns us sz) (hO : onceAt ks ns sz) (hS : psm ks ns us sz ≤ 500) {ot : Nat → Int32} {ol : Nat} (hP : prAs ks ns us sz ot ol) (pr : Nat → Int32) (i : Int32) :
    (∃ pr1, k_at ot ol i = (false, 0) ∧ m_at td sz pr i = (0, 1, pr1)) ∨ ∃ v pr1, k_at ot ol i = (true, v) ∧ m_at td sz pr i = (v, 0, pr1) := by
  obtain ⟨h1, h2, h3, h4⟩ := print_sim hsz hR hG hO hS hP
  unfold k_at m_at
  rw [h4 pr]
  by_cases c1 : i < 0
  · rw [if_pos c1, if_pos c1]
    exact Or.inl ⟨_, rfl, rfl⟩
  · rw [if_neg c1, if_neg c1]
    by_cases c2 : i < nI ol
    · rw [if_pos c2, if_pos c2]
      obtain ⟨j, hj, e⟩ := nat_of (n := ol) (by omega) c1 (fun z => by
        rw [Int32.lt_iff_toInt_lt] at c2
        rw [Int32.le_iff_toInt_le] at z
        omega)
      subst e
      refine Or.inr ⟨k_get ot ol (nI j), (m_atF td sz (sz + 1) 0 (nI j).toNatClampNeg (m_length td sz 0 0 pr).1).2, rfl, ?_⟩
      rw [k_get_at hj (by omega), nI_clamp (by omega)]
      have hz : 0 < sz := by
        by_cases hz : 0 < sz
        · exact hz
        · have e0 : sz = 0 := by omega
          subst e0
          have : ol = 0 := h2
          omega
      rw [atF_sim hR hG h3 (j := j) (by omega) (sz + 1) 0 j _ (show j + m_psum td sz 0 = j from rfl) hz (by omega)]
    · rw [if_neg c2, if_neg c2]
      exact Or.inl ⟨_, rfl, rfl⟩
end OR
