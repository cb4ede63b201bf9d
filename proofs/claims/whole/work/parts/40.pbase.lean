/-! THE PURE SIDE. Numbers, signs, finding a piece -/
theorem nI_m1 {n : Nat} (h : n < 2 ^ 31) : ¬ nI n = -1 := fun z => nI_pos h (by rw [z]; decide)
theorem k_get_at {a : Nat → Int32} {sz k : Nat} (hk : k < sz) (hs : sz < 2 ^ 31) : k_get a sz (nI k) = a k := by
  rw [k_get, if_neg (nI_pos (by omega)), if_neg (nI_ge hk hs), nI_clamp (by omega)]
theorem k_num_at {us : Nat → Int32} {sz k w : Nat} (hk : k < sz) (hs : sz ≤ 50) (hw : w < 4) : k_num us sz (nI k) (nI w) = us (4 * k + w) := by
  rw [k_num, if_neg (nI_pos (by omega)), if_neg (nI_ge hk (by omega)), if_neg (nI_pos (by omega)), if_pos (show nI w < (4 : Int32) from nI_lt (a := w) (b := 4) hw (by decide)), lin4, nI_clamp (by omega), Nat.mul_comm k 4]
def rowsAt (ks ns us : Nat → Int32) (n : Nat) (td : Nat → Int32) (o : Nat) : Prop := ∀ k, k < n → td (o + 6 * k) = ks k ∧ td (o + 6 * k + 1) = ns k ∧ ∀ w, w < 4 → td (o + 6 * k + 2 + w) = if w < k_nK (ks k) then us (4 * k + w) else 0
def goodAt (ks ns us : Nat → Int32) (n : Nat) : Prop := ∀ k, k < n → (∃ a, a < 6 ∧ ks k = nI a) ∧ (∃ b, b < 100 ∧ ns k = nI b) ∧ ∀ w, w < k_nK (ks k) → ∃ c, c < 100 ∧ us (4 * k + w) = nI c ∧ k_inRange (ks k) (nI w) (nI c) = true
def onceAt (ks ns : Nat → Int32) (n : Nat) : Prop := ∀ i j, i < n → j < n → ks i = ks j → ns i = ns j → i = j
theorem idx_spec (ks ns : Nat → Int32) (kind name : Int32) (n : Nat) : ∀ m k, n - k = m → (k_indexOf ks ns kind name n k = -1 ∧ ∀ i, k ≤ i → i < n → ¬ (ks i = kind ∧ ns i = name)) ∨ ∃ i, k ≤ i ∧ i < n ∧ ks i = kind ∧ ns i = name ∧ k_indexOf ks ns kind name n k = nI i := by
  intro m
  induction m with
  | zero =>
    intro k hm
    rw [k_indexOf, if_neg (by omega)]
    exact Or.inl ⟨rfl, fun i h1 h2 => absurd h2 (by omega)⟩
  | succ m ih =>
    intro k hm
    by_cases h : ks k = kind ∧ ns k = name
    · rw [k_indexOf, if_pos (by omega), if_pos h.1, if_pos h.2]
      exact Or.inr ⟨k, Nat.le_refl _, by omega, h.1, h.2, rfl⟩
    · have e : k_indexOf ks ns kind name n k = k_indexOf ks ns kind name n (k + 1) := by
        rw [k_indexOf, if_pos (by omega)]
        split
        · rename_i h1
          rw [if_neg (fun z => h ⟨h1, z⟩)]
        · rfl
      rw [e]
      rcases ih (k + 1) (by omega) with ⟨h1, h2⟩ | ⟨i, h1, h2, h3⟩
      · refine Or.inl ⟨h1, fun i hi1 hi2 => ?_⟩
        by_cases hik : i = k
        · subst hik; exact h
        · exact h2 i (by omega) hi2
      · exact Or.inr ⟨i, by omega, h2, h3⟩
theorem find_spec (td : Nat → Int32) (o n : Nat) (kind name : Int32) : ∀ m k (f : Option Nat), n - k = m → (m_find td o n kind name k f = f ∧ ∀ i, k ≤ i → i < n → ¬ (td (o + 6 * i) = kind ∧ td (o + 6 * i + 1) = name)) ∨ ∃ i, k ≤ i ∧ i < n ∧ td (o + 6 * i) = kind ∧ td (o + 6 * i + 1) = name ∧ m_find td o n kind name k f = some i := by
  intro m
  induction m with
  | zero =>
    intro k f hm
    rw [m_find, if_neg (by omega)]
    exact Or.inl ⟨rfl, fun i h1 h2 => absurd h2 (by omega)⟩
  | succ m ih =>
    intro k f hm
    by_cases h : td (o + 6 * k) = kind ∧ td (o + 6 * k + 1) = name
    · rw [m_find, if_pos (by omega), if_pos h.1, if_pos h.2]
      rcases ih (k + 1) (some k) (by omega) with ⟨h1, h2⟩ | ⟨i, h1, h2, h3⟩
      · exact Or.inr ⟨k, Nat.le_refl _, by omega, h.1, h.2, h1⟩
      · exact Or.inr ⟨i, by omega, h2, h3⟩
    · have e : m_find td o n kind name k f = m_find td o n kind name (k + 1) f := by
        rw [m_find, if_pos (by omega)]
        split
        · rename_i h1
          rw [if_neg (fun z => h ⟨h1, z⟩)]
        · rfl
      rw [e]
      rcases ih (k + 1) f (by omega) with ⟨h1, h2⟩ | ⟨i, h1, h2, h3⟩
      · refine Or.inl ⟨h1, fun i hi1 hi2 => ?_⟩
        by_cases hik : i = k
        · subst hik; exact h
        · exact h2 i (by omega) hi2
      · exact Or.inr ⟨i, by omega, h2, h3⟩
/-- a piece is found by the one where it is found by the other -/
theorem find_sim {ks ns : Nat → Int32} {n o : Nat} {td : Nat → Int32} (h : ∀ k, k < n → td (o + 6 * k) = ks k ∧ td (o + 6 * k + 1) = ns k) (h1 : onceAt ks ns n) (kind name : Int32) :
    (k_indexOf ks ns kind name n 0 = -1 ∧ m_find td o n kind name 0 none = none ∧ ∀ i, i < n → ¬ (ks i = kind ∧ ns i = name)) ∨ ∃ i, i < n ∧ ks i = kind ∧ ns i = name ∧ k_indexOf ks ns kind name n 0 = nI i ∧ m_find td o n kind name 0 none = some i := by
  rcases idx_spec ks ns kind name n _ 0 rfl with ⟨a1, a2⟩ | ⟨i, -, a2, a3, a4, a5⟩
  · rcases find_spec td o n kind name _ 0 none rfl with ⟨b1, b2⟩ | ⟨j, -, b2, b3, b4, b5⟩
    · exact Or.inl ⟨a1, b1, fun i hi => a2 i (Nat.zero_le _) hi⟩
    · rw [(h j b2).1] at b3
      rw [(h j b2).2] at b4
      exact absurd ⟨b3, b4⟩ (a2 j (Nat.zero_le _) b2)
  · rcases find_spec td o n kind name _ 0 none rfl with ⟨b1, b2⟩ | ⟨j, -, b2, b3, b4, b5⟩
    · exact absurd (by rw [(h i a2).1, (h i a2).2]; exact ⟨a3, a4⟩) (b2 i (Nat.zero_le _) a2)
    · rw [(h j b2).1] at b3
      rw [(h j b2).2] at b4
      have e := h1 i j a2 b2 (a3.trans b3.symm) (a4.trans b4.symm)
      subst e
      exact Or.inr ⟨i, a2, a3, a4, a5, b5⟩
/-! digits -/
theorem dig_sim (sg : Nat → Int32) (len p : Nat) : (k_digit sg len p = -1 ∧ m_isDigit (m_signAt sg len p) = false) ∨ ∃ d, d < 10 ∧ k_digit sg len p = nI d ∧ m_isDigit (m_signAt sg len p) = true ∧ m_signAt sg len p - 48 = nI d ∧ p < len := by
  by_cases hp : p < len
  · have e1 : k_sign sg len p = sg p := by rw [k_sign, if_pos hp]
    have e2 : m_signAt sg len p = sg p := by rw [m_signAt, if_pos hp]
    rw [k_digit, e1, e2, m_isDigit]
    by_cases c1 : sg p < 48
    · exact Or.inl ⟨by rw [if_pos c1], by rw [if_pos c1]⟩
    · by_cases c2 : 57 < sg p
      · exact Or.inl ⟨by rw [if_neg c1, if_pos c2], by rw [if_neg c1, if_pos c2]⟩
      · have h0 : ¬ sg p < 0 := fun z => c1 (by rw [Int32.lt_iff_toInt_lt] at z ⊢; exact Int.lt_trans z (by decide))
        have h1 : ¬ nI 58 ≤ sg p := fun z => c2 (by rw [Int32.le_iff_toInt_le] at z; rw [Int32.lt_iff_toInt_lt]; exact Int.lt_of_lt_of_le (by decide) z)
        obtain ⟨j, hj, e⟩ := nat_of (n := 58) (by decide) h0 h1
        rw [e] at c1
        have h48 : 48 ≤ j := Nat.le_of_not_lt (fun z => c1 (show nI j < nI 48 from nI_lt z (by decide)))
        have e3 : sg p - 48 = nI (j - 48) := by rw [e]; exact pk_sub (a := j) (b := 48) h48
        refine Or.inr ⟨j - 48, by omega, ?_, ?_, e3, hp⟩
        · rw [if_neg (by rw [e]; exact c1), if_neg c2, e3]
        · rw [if_neg (by rw [e]; exact c1), if_neg c2]
  · have e1 : k_sign sg len p = -1 := by rw [k_sign, if_neg hp]
    have e2 : m_signAt sg len p = 0 := by rw [m_signAt, if_neg hp]
    rw [k_digit, e1, e2]
    exact Or.inl ⟨by decide, by decide⟩
theorem num_sim (sg : Nat → Int32) (len p : Nat) : (k_readDigits sg len p = (-1, p) ∧ m_number sg len p = -1) ∨ ∃ v, v < 100 ∧ k_readDigits sg len p = (nI v, m_after sg len p) ∧ m_number sg len p = nI v ∧ p + (if v < 10 then 1 else 2) ≤ m_after sg len p ∧ m_after sg len p ≤ len := by
  rcases dig_sim sg len p with ⟨a1, a2⟩ | ⟨d, hd, a1, a2, a3, a4⟩
  · exact Or.inl ⟨by rw [k_readDigits, if_pos a1], by rw [m_number, if_neg (by rw [a2]; decide)]⟩
  · refine Or.inr ?_
    rcases dig_sim sg len (p + 1) with ⟨b1, b2⟩ | ⟨f, hf, b1, b2, b3, b4⟩
    · refine ⟨d, by omega, ?_, ?_, ?_, ?_⟩
      · rw [k_readDigits, if_neg (by rw [a1]; exact nI_m1 (by omega)), if_pos b1, a1, m_after, if_neg (by rw [b2]; decide)]
      · rw [m_number, if_pos a2, if_neg (by rw [b2]; decide), a3]
      · rw [if_pos hd, m_after, if_neg (by rw [b2]; decide)]; omega
      · rw [m_after, if_neg (by rw [b2]; decide)]; omega
    · refine ⟨10 * d + f, by omega, ?_, ?_, ?_, ?_⟩
      · rw [k_readDigits, if_neg (by rw [a1]; exact nI_m1 (by omega)), if_neg (by rw [b1]; exact nI_m1 (by omega)), a1, b1, m_after, if_pos b2]
        rw [← nI_add, ← pk_mul]
        rfl
      · rw [m_number, if_pos a2, if_pos b2, a3]
        have e : 10 * nI d + m_signAt sg len (p + 1) - 48 = 10 * nI d + (m_signAt sg len (p + 1) - 48) := by
          rw [Int32.sub_eq_add_neg, Int32.sub_eq_add_neg, Int32.add_assoc]
        rw [e, b3, ← nI_add, ← pk_mul]
        rfl
      · rw [m_after, if_pos b2]
        split <;> omega
      · rw [m_after, if_pos b2]; omega
theorem sign_sim (sg : Nat → Int32) (len p : Nat) {want : Int32} (h1 : ¬ want = -1) (h2 : ¬ want = 0) : (k_sign sg len p = want ∧ m_signAt sg len p = want ∧ p < len) ∨ (¬ k_sign sg len p = want ∧ ¬ m_signAt sg len p = want) := by
  by_cases hp : p < len
  · rw [k_sign, if_pos hp, m_signAt, if_pos hp]
    by_cases h : sg p = want
    · exact Or.inl ⟨h, h, hp⟩
    · exact Or.inr ⟨h, h⟩
  · rw [k_sign, if_neg hp, m_signAt, if_neg hp]
    exact Or.inr ⟨fun z => h1 z.symm, fun z => h2 z.symm⟩
theorem kind_sim (g : Int32) : (k_kindF g 0 = -1 ∧ m_kindF g 0 none = none) ∨ ∃ kd, kd < 6 ∧ k_kindF g 0 = nI kd ∧ m_kindF g 0 none = some kd := by
  have uk : ∀ k, k < 6 → k_kindF g k = if k_tabL k = g then nI k else k_kindF g (k + 1) := fun k hk => by rw [k_kindF, if_pos hk]
  have um : ∀ k f, k < 6 → m_kindF g k f = if m_letter (nI k) = g then m_kindF g (k + 1) (some k) else m_kindF g (k + 1) f := fun k f hk => by rw [m_kindF, if_pos hk]
  have uk6 : k_kindF g 6 = -1 := by rw [k_kindF, if_neg (by decide)]
  have um6 : ∀ f, m_kindF g 6 f = f := fun f => by rw [m_kindF, if_neg (by decide)]
  have hl : ∀ k, k < 6 → m_letter (nI k) = k_tabL k := by decide +kernel
  have hd : ∀ i, i < 6 → ∀ j, j < 6 → k_tabL i = k_tabL j → i = j := by decide +kernel
  by_cases h : ∃ i, i < 6 ∧ k_tabL i = g
  · obtain ⟨i, hi, e⟩ := h
    refine Or.inr ⟨i, hi, ?_, ?_⟩
    · have hk : ∀ m k, i - k = m → k ≤ i → k_kindF g k = nI i := by
        intro m
        induction m with
        | zero => intro k hm hk; have : k = i := by omega
                  subst this; rw [uk k hi, if_pos e]
        | succ m ih => intro k hm hk; rw [uk k (by omega), if_neg (fun z => by have := hd k (by omega) i hi (z.trans e.symm); omega)]; exact ih (k + 1) (by omega) (by omega)
      exact hk _ 0 rfl (by omega)
    · have hm2 : ∀ m k f, 6 - k = m → k ≤ 6 → m_kindF g k f = if k ≤ i then some i else f := by
        intro m
        induction m with
        | zero => intro k f hm hk; have : k = 6 := by omega
                  subst this; rw [um6, if_neg (by omega)]
        | succ m ih =>
          intro k f hm hk
          rw [um k f (by omega), hl k (by omega)]
          by_cases hki : k = i
          · subst hki
            rw [if_pos e, ih (k + 1) (some k) (by omega) (by omega), if_neg (by omega), if_pos (Nat.le_refl _)]
          · rw [if_neg (fun z => hki (hd k (by omega) i hi (z.trans e.symm))), ih (k + 1) f (by omega) (by omega)]
            by_cases h3 : k ≤ i
            · rw [if_pos (by omega), if_pos h3]
            · rw [if_neg (by omega), if_neg h3]
      rw [hm2 _ 0 none rfl (by omega), if_pos (Nat.zero_le _)]
  · have hno : ∀ i, i < 6 → ¬ k_tabL i = g := fun i hi z => h ⟨i, hi, z⟩
    refine Or.inl ⟨?_, ?_⟩
    · rw [uk 0 (by decide), if_neg (hno 0 (by decide)), uk 1 (by decide), if_neg (hno 1 (by decide)), uk 2 (by decide), if_neg (hno 2 (by decide)), uk 3 (by decide), if_neg (hno 3 (by decide)), uk 4 (by decide), if_neg (hno 4 (by decide)), uk 5 (by decide), if_neg (hno 5 (by decide)), uk6]
    · have hn2 : ∀ i, i < 6 → ¬ m_letter (nI i) = g := fun i hi z => hno i hi (by rw [← hl i hi]; exact z)
      rw [um 0 _ (by decide), if_neg (hn2 0 (by decide)), um 1 _ (by decide), if_neg (hn2 1 (by decide)), um 2 _ (by decide), if_neg (hn2 2 (by decide)), um 3 _ (by decide), if_neg (hn2 3 (by decide)), um 4 _ (by decide), if_neg (hn2 4 (by decide)), um 5 _ (by decide), if_neg (hn2 5 (by decide)), um6]
theorem nK_sim : ∀ a, a < 6 → k_nK (nI a) = m_nums (nI a) ∧ 0 < k_nK (nI a) ∧ k_nK (nI a) ≤ 4 := by decide +kernel
theorem range_sim : ∀ a, a < 6 → ∀ w, w < k_nK (nI a) → ∀ c, c < 100 → k_inRange (nI a) (nI w) (nI c) = m_isRange (nI a) (nI w) (nI c) := by decide +kernel
theorem range_pt0 : ∀ a, a < 6 → ∀ w, w < k_nK (nI a) → ∀ c, c < 100 → (k_inRange (nI a) (nI w) (nI c) && (w == 0 || (w == 1 && (a == 0 || a == 4)))) = false ∨ c < 16 := by decide +kernel
theorem range_pt {a w c : Nat} (ha : a < 6) (hw : w < k_nK (nI a)) (hc : c < 100) (h : k_inRange (nI a) (nI w) (nI c) = true) (hp : w = 0 ∨ (w = 1 ∧ (a = 0 ∨ a = 4))) : c < 16 := by
  rcases range_pt0 a ha w hw c hc with h1 | h1
  · rw [h] at h1
    exfalso
    rcases hp with rfl | ⟨rfl, rfl | rfl⟩ <;> simp at h1
  · exact h1
