/-! the reference's 'at' -/
theorem m_puts_snd (pr pr2 : Nat → Int32) (q : Nat) (v c : Int32) : (m_puts pr q v c).2 = (m_puts pr2 q v c).2 := by
  unfold m_puts
  split <;> rfl
theorem m_prNums_snd (td : Nat → Int32) (i many : Nat) : ∀ (m k : Nat) (pr pr2 : Nat → Int32) (q : Nat), many - k = m → (m_prNums td i many k pr q).2 = (m_prNums td i many k pr2 q).2 := by
  intro m
  induction m with
  | zero =>
    intro k pr pr2 q hk
    rw [m_prNums, if_neg (by omega), m_prNums, if_neg (by omega)]
  | succ m ih =>
    intro k pr pr2 q hk
    have u : ∀ p : Nat → Int32, m_prNums td i many k p q = (match m_puts p q (td (6 * i + 2 + k)) (if nI k = nI many - 1 then 59 else 44) with | (pr1, q1) => m_prNums td i many (k + 1) pr1 q1) := fun p => by rw [m_prNums, if_pos (by omega)]
    rw [u pr, u pr2]
    have h := m_puts_snd pr pr2 q (td (6 * i + 2 + k)) (if nI k = nI many - 1 then 59 else 44)
    rcases h1 : m_puts pr q (td (6 * i + 2 + k)) (if nI k = nI many - 1 then 59 else 44) with ⟨a1, b1⟩
    rcases h2 : m_puts pr2 q (td (6 * i + 2 + k)) (if nI k = nI many - 1 then 59 else 44) with ⟨a2, b2⟩
    rw [h1, h2] at h
    have h : b1 = b2 := h
    subst h
    exact ih (k + 1) a1 a2 b1 (by omega)
def m_len (td : Nat → Int32) (i : Nat) : Nat := (m_prints td i (fun _ => 0)).2
theorem m_prints_len (td : Nat → Int32) (i : Nat) (pr : Nat → Int32) : (m_prints td i pr).2 = m_len td i := by
  unfold m_len m_prints
  have h := m_puts_snd (upd pr 0 (m_letter (td (6 * i)))) (upd (fun _ => 0) 0 (m_letter (td (6 * i)))) 1 (td (6 * i + 1)) 61
  rcases h1 : m_puts (upd pr 0 (m_letter (td (6 * i)))) 1 (td (6 * i + 1)) 61 with ⟨a1, b1⟩
  rcases h2 : m_puts (upd (fun _ => 0) 0 (m_letter (td (6 * i)))) 1 (td (6 * i + 1)) 61 with ⟨a2, b2⟩
  rw [h1, h2] at h
  have h : b1 = b2 := h
  subst h
  exact m_prNums_snd td i _ _ 0 a1 a2 b1 rfl
theorem m_len_le (td : Nat → Int32) (i : Nat) : m_len td i ≤ 16 := m_prints_le td i _
theorem m_order_lt (td : Nat → Int32) (pn : Nat) (k : Int32) (hpn : pn ≤ 50) : m_order td pn k 0 0 < 50 := by
  have h : ∀ (m i f : Nat), pn - i = m → f < 50 → m_order td pn k i f < 50 := by
    intro m
    induction m with
    | zero => intro i f hm hf; rw [m_order, if_neg (by omega)]; exact hf
    | succ m ih =>
      intro i f hm hf
      rw [m_order, if_pos (by omega)]
      split
      · exact ih (i + 1) i (by omega) (by omega)
      · exact ih (i + 1) f (by omega) hf
  exact h _ 0 0 rfl (by decide)
def m_psum (td : Nat → Int32) (pn : Nat) : Nat → Nat
  | 0 => 0
  | j + 1 => m_psum td pn j + m_len td (m_order td pn (nI j) 0 0)
theorem m_psum_mono (td : Nat → Int32) (pn : Nat) {a b : Nat} (h : a ≤ b) : m_psum td pn a ≤ m_psum td pn b := by
  induction h with
  | refl => exact Nat.le_refl _
  | step h ih => exact Nat.le_trans ih (Nat.le_add_right _ _)
theorem m_psum_lt {td : Nat → Int32} {pn k left n j : Nat} (h1 : left + m_psum td pn k = j) (hn : n = m_len td (m_order td pn (nI k) 0 0)) (h2 : ¬ left < n) (h3 : j < m_psum td pn pn) : k + 1 < pn ∧ left - n + m_psum td pn (k + 1) = j := by
  have e : m_psum td pn (k + 1) = m_psum td pn k + m_len td (m_order td pn (nI k) 0 0) := rfl
  refine ⟨?_, by omega⟩
  by_cases h : k + 1 < pn
  · exact h
  · have h5 := m_psum_mono td pn (show pn ≤ k + 1 by omega)
    omega
def m_atF (td : Nat → Int32) (pn : Nat) : Nat → Nat → Nat → (Nat → Int32) → Int32 × (Nat → Int32)
  | 0, _, _, pr => (0, pr)
  | f + 1, k, left, pr => if left < (m_prints td (m_order td pn (nI k) 0 0) pr).2 then ((m_prints td (m_order td pn (nI k) 0 0) pr).1 left, (m_prints td (m_order td pn (nI k) 0 0) pr).1) else m_atF td pn f (k + 1) (left - (m_prints td (m_order td pn (nI k) 0 0) pr).2) (m_prints td (m_order td pn (nI k) 0 0) pr).1
def m_at (td : Nat → Int32) (pn : Nat) (pr : Nat → Int32) (i : Int32) : Int32 × Int32 × (Nat → Int32) :=
  if i < 0 then (0, 1, pr) else if i < nI (m_length td pn 0 0 pr).2 then ((m_atF td pn (pn + 1) 0 i.toNatClampNeg (m_length td pn 0 0 pr).1).1, 0, (m_atF td pn (pn + 1) 0 i.toNatClampNeg (m_length td pn 0 0 pr).1).2) else (0, 1, (m_length td pn 0 0 pr).1)
theorem m_length_ind (td : Nat → Int32) (pn : Nat) : ∀ (m i n : Nat) (pr : Nat → Int32), pn - i = m → i ≤ pn → n ≤ 16 * i → (m_length td pn i n pr).2 ≤ 16 * pn := by
  intro m
  induction m with
  | zero => intro i n pr hm hi hn; rw [m_length, if_neg (by omega)]; show n ≤ 16 * pn; omega
  | succ m ih =>
    intro i n pr hm hi hn
    rw [m_length, if_pos (by omega)]
    have h := m_prints_le td i pr
    rcases hF : m_prints td i pr with ⟨a1, b1⟩
    rw [hF] at h
    have h : b1 ≤ 16 := h
    exact ih (i + 1) (n + b1) a1 (by omega) (by omega) (by omega)
theorem m_length_le (td : Nat → Int32) (pn : Nat) (pr : Nat → Int32) : (m_length td pn 0 0 pr).2 ≤ 16 * pn := m_length_ind td pn _ 0 0 pr rfl (Nat.zero_le _) (Nat.zero_le _)
