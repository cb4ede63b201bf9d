/-! A ROW'S TEXT, printed by class and reference alike -/
def put (ot : Nat → Int32) (ol : Nat) : List Int32 → (Nat → Int32) × Nat
  | [] => (ot, ol)
  | c :: l => put (upd ot ol c) (ol + 1) l
theorem put_app : ∀ (A B : List Int32) (ot : Nat → Int32) (ol : Nat), put ot ol (A ++ B) = put (put ot ol A).1 (put ot ol A).2 B := by
  intro A
  induction A with
  | nil => intro B ot ol; rfl
  | cons c A ih => intro B ot ol; exact ih B (upd ot ol c) (ol + 1)
theorem put_len : ∀ (A : List Int32) (ot : Nat → Int32) (ol : Nat), (put ot ol A).2 = ol + A.length := by
  intro A
  induction A with
  | nil => intro ot ol; rfl
  | cons c A ih => intro ot ol; rw [List.length_cons]; show (put (upd ot ol c) (ol + 1) A).2 = _; rw [ih]; omega
theorem put_old : ∀ (A : List Int32) (ot : Nat → Int32) (ol j : Nat), j < ol → (put ot ol A).1 j = ot j := by
  intro A
  induction A with
  | nil => intro ot ol j h; rfl
  | cons c A ih => intro ot ol j h; show (put (upd ot ol c) (ol + 1) A).1 j = _; rw [ih _ _ j (by omega), pk_un (by omega)]
theorem put_new : ∀ (A : List Int32) (ot : Nat → Int32) (ol t : Nat) (v : Int32), A[t]? = some v → (put ot ol A).1 (ol + t) = v := by
  intro A
  induction A with
  | nil => intro ot ol t v h; simp at h
  | cons c A ih =>
    intro ot ol t v h
    show (put (upd ot ol c) (ol + 1) A).1 (ol + t) = v
    cases t with
    | zero =>
      have : c = v := by simpa using h
      show (put (upd ot ol c) (ol + 1) A).1 ol = v
      rw [put_old A _ _ ol (by omega), pk_us, this]
    | succ t =>
      rw [show ol + (t + 1) = ol + 1 + t by omega]
      exact ih _ _ t v (by simpa using h)
def dgl (x : Int32) : List Int32 := if x < 10 then [48 + (x - x / 10 * 10)] else [48 + x / 10, 48 + (x - x / 10 * 10)]
theorem dgl_len (x : Int32) : (dgl x).length = dg x := by
  unfold dgl dg
  split <;> rfl
def ntx (us : Nat → Int32) (b many : Nat) : Nat → Nat → List Int32
  | 0, _ => []
  | m + 1, w => dgl (us (b + w)) ++ ((if w + 1 < many then 44 else 59) :: ntx us b many m (w + 1))
def rtx (ks ns us : Nat → Int32) (k : Nat) : List Int32 := k_tabL (ks k).toNatClampNeg :: (dgl (ns k) ++ (61 :: ntx us (4 * k) (k_nK (ks k)) (k_nK (ks k)) 0))
theorem dsm_split (us : Nat → Int32) (b : Nat) (many : Nat) : ∀ m w, w + m = many → dsm us b w + (ntx us b many m w).length = dsm us b many := by
  intro m
  induction m with
  | zero => intro w h; rw [show w = many by omega]; rfl
  | succ m ih =>
    intro w h
    have := ih (w + 1) (by omega)
    show dsm us b w + (dgl (us (b + w)) ++ (_ :: ntx us b many m (w + 1))).length = _
    rw [List.length_append, List.length_cons, dgl_len]
    have e : dsm us b (w + 1) = dsm us b w + dg (us (b + w)) + 1 := rfl
    omega
theorem rtx_len (ks ns us : Nat → Int32) (k : Nat) : (rtx ks ns us k).length = plen ks ns us k := by
  have h := dsm_split us (4 * k) (k_nK (ks k)) (k_nK (ks k)) 0 (by omega)
  unfold rtx plen
  rw [List.length_cons, List.length_append, List.length_cons, dgl_len]
  have : dsm us (4 * k) 0 = 0 := rfl
  omega
theorem chr_tab : ∀ v, v < 100 → vp_nar .char (k_chr (nI v / 10)) = 48 + nI v / 10 ∧ vp_nar .char (k_chr (nI v - nI v / 10 * 10)) = 48 + (nI v - nI v / 10 * 10) := by decide +kernel
theorem wSign_put {ot : Nat → Int32} {ol : Nat} (h : ol < 500) {c c' : Int32} (hc : vp_nar .char c = c') : k_wSign ot ol c = put ot ol [c'] := by
  rw [k_wSign, if_pos h, hc]
  rfl
theorem wNum_put {ot : Nat → Int32} {ol v : Nat} (hv : v < 100) (h : ol + dg (nI v) ≤ 500) : k_wNum ot ol (nI v) = put ot ol (dgl (nI v)) := by
  obtain ⟨c1, c2⟩ := chr_tab v hv
  unfold k_wNum dgl
  unfold dg at h
  split
  · rename_i hx
    rw [if_pos hx] at h
    exact wSign_put (by omega) c2
  · rename_i hx
    rw [if_neg hx] at h
    rw [wSign_put (by omega) c1]
    show k_wSign (put ot ol [48 + nI v / 10]).1 (put ot ol [48 + nI v / 10]).2 _ = _
    rw [wSign_put (by rw [put_len]; show ol + 1 < 500; omega) c2]
    rfl
theorem nums_text {us : Nat → Int32} {sz k many : Nat} (hk : k < sz) (hsz : sz ≤ 50) (hm : many ≤ 4) (hm0 : 0 < many) (hg : ∀ w, w < many → ∃ c, c < 100 ∧ us (4 * k + w) = nI c) : ∀ m w (ot : Nat → Int32) (ol : Nat), w + m = many → ol + (if m = 0 then 1 else 1 + (ntx us (4 * k) many m w).length) ≤ 500 → k_wNums us sz (nI k) many w ot ol = put ot ol (if m = 0 then [59] else (if w = 0 then 61 else 44) :: ntx us (4 * k) many m w) := by
  intro m
  induction m with
  | zero =>
    intro w ot ol h hb
    rw [if_pos rfl] at hb ⊢
    rw [k_wNums, if_neg (by omega)]
    exact wSign_put (by omega) (by decide)
  | succ m ih =>
    intro w ot ol h hb
    rw [if_neg (by omega)] at hb ⊢
    obtain ⟨c, hc, ec⟩ := hg w (by omega)
    have eL : ntx us (4 * k) many (m + 1) w = dgl (nI c) ++ ((if w + 1 < many then 44 else 59) :: ntx us (4 * k) many m (w + 1)) := by
      show dgl (us (4 * k + w)) ++ _ = _
      rw [ec]
    rw [eL] at hb ⊢
    rw [List.length_append, List.length_cons, dgl_len] at hb
    have e1 : k_wSign ot ol (if w = 0 then 61 else 44) = put ot ol [if w = 0 then 61 else 44] := wSign_put (by omega) (by split <;> decide)
    have l1 : (put ot ol [if w = 0 then (61 : Int32) else 44]).2 = ol + 1 := put_len ..
    rw [k_wNums, if_pos (by omega), e1]
    show (match k_wNum (put ot ol [if w = 0 then (61 : Int32) else 44]).1 (put ot ol [if w = 0 then (61 : Int32) else 44]).2 (k_num us sz (nI k) (nI w)) with | (ot2, ol2) => k_wNums us sz (nI k) many (w + 1) ot2 ol2) = _
    rw [k_num_at hk hsz (by omega), ec, wNum_put hc (by rw [l1]; omega)]
    generalize hz : put ot ol [if w = 0 then (61 : Int32) else 44] = z at l1
    have l2 : (put z.1 z.2 (dgl (nI c))).2 = ol + 1 + dg (nI c) := by rw [put_len, l1, dgl_len]
    show k_wNums us sz (nI k) many (w + 1) (put z.1 z.2 (dgl (nI c))).1 (put z.1 z.2 (dgl (nI c))).2 = _
    have hlast : (if m = 0 then ([59] : List Int32) else (if w + 1 = 0 then 61 else 44) :: ntx us (4 * k) many m (w + 1)) = (if w + 1 < many then 44 else 59) :: ntx us (4 * k) many m (w + 1) := by
      by_cases hm1 : m = 0
      · subst hm1
        rw [if_pos rfl, if_neg (by omega)]
        rfl
      · rw [if_neg hm1, if_neg (by omega), if_pos (by omega)]
    have hb2 : ol + 1 + dg (nI c) + (if m = 0 then 1 else 1 + (ntx us (4 * k) many m (w + 1)).length) ≤ 500 := by
      split
      · rename_i hm1
        subst hm1
        omega
      · omega
    rw [ih (w + 1) _ _ (by omega) (by rw [l2]; exact hb2), hlast]
    show _ = put ot ol ([if w = 0 then (61 : Int32) else 44] ++ (dgl (nI c) ++ _))
    rw [put_app, hz, put_app]
theorem row_text {ks ns us : Nat → Int32} {sz k : Nat} (hk : k < sz) (hsz : sz ≤ 50) (hG : goodAt ks ns us sz) {ot : Nat → Int32} {ol : Nat} (hb : ol + plen ks ns us k ≤ 500) : k_wRow ks ns us sz (nI k) ot ol = put ot ol (rtx ks ns us k) := by
  obtain ⟨⟨a, ha, ea⟩, ⟨b, hb2, eb⟩, hw⟩ := hG k hk
  have hN := nK_sim a ha
  have hlet : ∀ a, a < 6 → k_isKind (nI a) = true ∧ vp_nar .char (k_tabL (nI a).toNatClampNeg) = k_tabL (nI a).toNatClampNeg := by decide +kernel
  obtain ⟨q1, q2⟩ := hlet a ha
  have hlen := rtx_len ks ns us k
  unfold rtx at hlen ⊢
  rw [List.length_cons, List.length_append, List.length_cons, dgl_len] at hlen
  rw [k_wRow, k_get_at hk (by omega), k_get_at hk (by omega)]
  rw [ea] at hlen hw ⊢
  rw [eb] at hlen ⊢
  rw [if_pos q1, wSign_put (by omega) q2]
  have l1 : (put ot ol [k_tabL (nI a).toNatClampNeg]).2 = ol + 1 := put_len ..
  show (match k_wNum (put ot ol [k_tabL (nI a).toNatClampNeg]).1 (put ot ol [k_tabL (nI a).toNatClampNeg]).2 (nI b) with | (ot2, ol2) => k_wNums us sz (nI k) (k_nK (nI a)) 0 ot2 ol2) = put ot ol ([k_tabL (nI a).toNatClampNeg] ++ (dgl (nI b) ++ _))
  rw [put_app]
  generalize put ot ol [k_tabL (nI a).toNatClampNeg] = z at l1 ⊢
  rw [wNum_put hb2 (by rw [l1]; omega), put_app]
  have l2 : (put z.1 z.2 (dgl (nI b))).2 = ol + 1 + dg (nI b) := by rw [put_len, l1, dgl_len]
  show k_wNums us sz (nI k) (k_nK (nI a)) 0 (put z.1 z.2 (dgl (nI b))).1 (put z.1 z.2 (dgl (nI b))).2 = _
  have hm : ¬ k_nK (nI a) = 0 := by omega
  rw [nums_text hk hsz hN.2.2 hN.2.1 (fun w h => by obtain ⟨c, c1, c2, -⟩ := hw w h; exact ⟨c, c1, c2⟩) (k_nK (nI a)) 0 _ _ (by omega) (by rw [if_neg hm, l2]; omega), if_neg hm, if_pos rfl]
/-! the reference -/
theorem puts_put (pr : Nat → Int32) (q v : Nat) (hv : v < 100) (c : Int32) : m_puts pr q (nI v) c = put pr q (dgl (nI v) ++ [c]) := by
  unfold m_puts dgl
  by_cases h : v < 10
  · rw [if_pos (show nI v ≤ (9 : Int32) from nI_le (a := v) (b := 9) (by omega) (by decide)), if_pos (show nI v < (10 : Int32) from nI_lt (a := v) (b := 10) h (by decide))]
    rfl
  · rw [if_neg (show ¬ nI v ≤ (9 : Int32) from nI_ge (a := 9) (b := v) (by omega) (by omega)), if_neg (show ¬ nI v < (10 : Int32) from nI_nlt (a := v) (b := 10) (by omega) (by omega))]
    rfl
theorem prNums_put {us td : Nat → Int32} {i many : Nat} (hm : many ≤ 4) (hg : ∀ w, w < many → td (6 * i + 2 + w) = us (4 * i + w) ∧ ∃ c, c < 100 ∧ us (4 * i + w) = nI c) : ∀ m w (pr : Nat → Int32) (q : Nat), w + m = many → m_prNums td i many w pr q = put pr q (ntx us (4 * i) many m w) := by
  intro m
  induction m with
  | zero => intro w pr q h; rw [m_prNums, if_neg (by omega)]; rfl
  | succ m ih =>
    intro w pr q h
    obtain ⟨e0, c, hc, ec⟩ := hg w (by omega)
    rw [m_prNums, if_pos (by omega), e0, ec, sep_sim (by omega) hm, puts_put _ _ _ hc]
    show m_prNums td i many (w + 1) (put pr q (dgl (nI c) ++ [if w + 1 < many then 44 else 59])).1 (put pr q (dgl (nI c) ++ [if w + 1 < many then 44 else 59])).2 = _
    rw [ih (w + 1) _ _ (by omega), ← put_app]
    show put pr q (dgl (nI c) ++ [if w + 1 < many then 44 else 59] ++ ntx us (4 * i) many m (w + 1)) = put pr q (dgl (us (4 * i + w)) ++ ((if w + 1 < many then 44 else 59) :: ntx us (4 * i) many m (w + 1)))
    rw [ec, List.append_assoc]
    rfl
theorem prints_put {ks ns us td : Nat → Int32} {sz i : Nat} (hR : rowsAt ks ns us sz td 0) (hG : goodAt ks ns us sz) (hi : i < sz) (pr : Nat → Int32) : m_prints td i pr = put pr 0 (rtx ks ns us i) := by
  obtain ⟨⟨a, ha, ea⟩, ⟨b, hb2, eb⟩, hw⟩ := hG i hi
  obtain ⟨t0, t1, t2⟩ := rows0 hR hi
  have hN := nK_sim a ha
  have hl : ∀ a, a < 6 → m_letter (nI a) = k_tabL (nI a).toNatClampNeg := by decide +kernel
  unfold m_prints rtx
  rw [t0, t1]
  rw [ea] at hw ⊢
  rw [eb, hl a ha, puts_put _ _ _ hb2, ← hN.1]
  show m_prNums td i (k_nK (nI a)) 0 (put (upd pr 0 (k_tabL (nI a).toNatClampNeg)) 1 (dgl (nI b) ++ [61])).1 (put (upd pr 0 (k_tabL (nI a).toNatClampNeg)) 1 (dgl (nI b) ++ [61])).2 = put (upd pr 0 (k_tabL (nI a).toNatClampNeg)) 1 _
  rw [prNums_put (us := us) hN.2.2 (fun w h => ⟨by rw [t2 w (by omega), ea, if_pos h], by obtain ⟨c, c1, c2, -⟩ := hw w h; exact ⟨c, c1, c2⟩⟩) (k_nK (nI a)) 0 _ _ (by omega), ← put_app, List.append_assoc]
  rfl
