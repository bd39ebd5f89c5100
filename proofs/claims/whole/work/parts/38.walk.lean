/-! deeds and walks, on both sides -/
theorem x_p {np : Nat} {cells : Nat → Int32} {P : Nat → Nat → Int} (h : rowsIn 6 np 0 cells P) (hnp : np ≤ 12) {p : Nat} (hp : p < np) {cI : Int32} (c : Nat) (ec : cI = zI c) (hc : c < 6) {k : Int32 → Prop} (hk : k (zI (P p c))) : pX7_at 72 6 cells (zI p) cI k := by
  rw [ec, z6, x_at6 h hnp hp hc]; exact hk
theorem m_p {np : Nat} {now : Nat → Int32} {P : Nat → Nat → Int} (h : rowsIn 6 np (0 + 6) now P) (hnp : np ≤ 12) {p : Nat} (hp : p < np) {cI : Int32} (c : Nat) (ec : cI = zI c) (hc : c < 6) {k : Int32 → Prop} (hk : k (zI (P p c))) : pX12_ofPasser now (zI p) cI k := by
  rw [ec, m_of h hnp hp hc]; exact hk
theorem x_even {a : Int} (ha : 0 ≤ a ∧ a ≤ 99) : zI a - zI a / 2 * 2 = zI (a % 2) := by
  rw [zI_div2 (by omega), z2, zI_mul, zI_sub]; refine zI_eqI ?_; omega
theorem x_deed {np : Nat} {cells : Nat → Int32} {P : Nat → Nat → Int} (h : rowsIn 6 np 0 cells P) (hP : okP np P) {p : Nat} (hp : p < np) {a d : Int} (ha : 0 ≤ a ∧ a ≤ 30) (hd : -2 ≤ d ∧ d ≤ 1) {k : Int32 → Prop} (hk : k (zI (dd (P p) a d))) : pX5_deed cells (zI p) (zI a) (zI d) k := by
  obtain ⟨o1, o2, o3, o4, o5⟩ := hP.2.1 p hp
  unfold pX5_deed
  refine x_p h hP.1 hp 1 rfl (by omega) ?_
  refine brF (by ((try simp only [zI_lit, zI_neg, zI_add, zI_sub, zI_mul, zI_n, ne_eq]) <;> (first | rw [zI_lt (by omega) (by omega)] | rw [zI_le (by omega) (by omega)] | rw [zI_eq (by omega) (by omega)]); try omega)) (brF (by ((try simp only [zI_lit, zI_neg, zI_add, zI_sub, zI_mul, zI_n, ne_eq]) <;> (first | rw [zI_lt (by omega) (by omega)] | rw [zI_le (by omega) (by omega)] | rw [zI_eq (by omega) (by omega)]); try omega)) ?_)
  unfold dd at hk
  refine ⟨by rw [zI_in (by omega)]; omega, fun e => ?_, fun e => ?_, fun e => ?_, fun e => ?_, fun e => ?_, fun e => ?_⟩
  all_goals (simp only [zI_lit] at e; rw [zI_eq (by omega) (by omega)] at e; refine x_p h hP.1 hp 0 rfl (by omega) (x_p h hP.1 hp 2 rfl (by omega) (x_p h hP.1 hp 3 rfl (by omega) ?_)))
  · rw [if_pos e] at hk; exact x_tk ha hk
  · rw [if_neg (by omega), if_pos e] at hk
    unfold pX4_act
    by_cases q : P p 2 = 1
    · rw [if_pos q] at hk; exact brT (by ((try simp only [zI_lit, zI_neg, zI_add, zI_sub, zI_mul, zI_n, ne_eq]) <;> (first | rw [zI_lt (by omega) (by omega)] | rw [zI_le (by omega) (by omega)] | rw [zI_eq (by omega) (by omega)]); try omega)) (x_ly ha hk)
    · rw [if_neg q] at hk; exact brF (by ((try simp only [zI_lit, zI_neg, zI_add, zI_sub, zI_mul, zI_n, ne_eq]) <;> (first | rw [zI_lt (by omega) (by omega)] | rw [zI_le (by omega) (by omega)] | rw [zI_eq (by omega) (by omega)]); try omega)) (x_tk ha hk)
  · rw [if_neg (by omega), if_neg (by omega), if_pos e] at hk
    exact x_ws ha o4 o3 hk
  · rw [if_neg (by omega), if_neg (by omega), if_neg (by omega), if_pos e] at hk
    unfold pX2_act
    by_cases q : 0 < d
    · rw [if_pos q] at hk; exact brF (by ((try simp only [zI_lit, zI_neg, zI_add, zI_sub, zI_mul, zI_n, ne_eq]) <;> (first | rw [zI_lt (by omega) (by omega)] | rw [zI_le (by omega) (by omega)] | rw [zI_eq (by omega) (by omega)]); try omega)) (x_tk ha hk)
    · rw [if_neg q] at hk
      refine brT (by ((try simp only [zI_lit, zI_neg, zI_add, zI_sub, zI_mul, zI_n, ne_eq]) <;> (first | rw [zI_lt (by omega) (by omega)] | rw [zI_le (by omega) (by omega)] | rw [zI_eq (by omega) (by omega)]); try omega)) ?_
      by_cases q1 : d < 0
      · refine brF (by ((try simp only [zI_lit, zI_neg, zI_add, zI_sub, zI_mul, zI_n, ne_eq]) <;> (first | rw [zI_lt (by omega) (by omega)] | rw [zI_le (by omega) (by omega)] | rw [zI_eq (by omega) (by omega)]); try omega)) ?_
        by_cases q2 : P p 2 = 1
        · rw [if_pos ⟨q1, q2⟩] at hk; exact brT (by ((try simp only [zI_lit, zI_neg, zI_add, zI_sub, zI_mul, zI_n, ne_eq]) <;> (first | rw [zI_lt (by omega) (by omega)] | rw [zI_le (by omega) (by omega)] | rw [zI_eq (by omega) (by omega)]); try omega)) (x_ly ha hk)
        · rw [if_neg (fun z => q2 z.2)] at hk; exact brF (by ((try simp only [zI_lit, zI_neg, zI_add, zI_sub, zI_mul, zI_n, ne_eq]) <;> (first | rw [zI_lt (by omega) (by omega)] | rw [zI_le (by omega) (by omega)] | rw [zI_eq (by omega) (by omega)]); try omega)) hk
      · rw [if_neg (fun z => q1 z.1)] at hk; exact brT (by ((try simp only [zI_lit, zI_neg, zI_add, zI_sub, zI_mul, zI_n, ne_eq]) <;> (first | rw [zI_lt (by omega) (by omega)] | rw [zI_le (by omega) (by omega)] | rw [zI_eq (by omega) (by omega)]); try omega)) hk
  · rw [if_neg (by omega), if_neg (by omega), if_neg (by omega), if_neg (by omega), if_pos e] at hk
    unfold pX1_act
    have t1 := tk_b ha
    refine x_tk ha ?_
    dsimp only
    rw [zI_add]
    refine x_tk (by omega) ?_
    dsimp only
    rw [zI_add]
    have e2 : tk a + tk (a + tk a) = if 1 < a then -2 else -a := by
      unfold tk
      repeat' split
      all_goals omega
    rw [e2]; exact hk
  · rw [if_neg (by omega), if_neg (by omega), if_neg (by omega), if_neg (by omega), if_neg (by omega)] at hk
    unfold pX0_act
    rw [x_even (by omega)]
    by_cases q : P p 0 % 2 = 0
    · rw [if_pos q] at hk; exact brT (by ((try simp only [zI_lit, zI_neg, zI_add, zI_sub, zI_mul, zI_n, ne_eq]) <;> (first | rw [zI_lt (by omega) (by omega)] | rw [zI_le (by omega) (by omega)] | rw [zI_eq (by omega) (by omega)]); try omega)) (x_ws ha o4 o3 hk)
    · rw [if_neg q] at hk; exact brF (by ((try simp only [zI_lit, zI_neg, zI_add, zI_sub, zI_mul, zI_n, ne_eq]) <;> (first | rw [zI_lt (by omega) (by omega)] | rw [zI_le (by omega) (by omega)] | rw [zI_eq (by omega) (by omega)]); try omega)) hk
theorem m_ws {br w h : Int} {k : Int32 → Prop} (a : 0 ≤ h ∧ h ≤ 30) (b : 0 ≤ w ∧ w ≤ 30) (c : 0 ≤ br ∧ br ≤ 1) (hk : k (zI (ws br w h))) : pX12_actOf_152 k (zI h) (zI br) (zI w) := by
  unfold pX12_actOf_152
  unfold ws at hk
  by_cases q : w < h
  · rw [if_pos q] at hk; exact brF (by ((try simp only [zI_lit, zI_neg, zI_add, zI_sub, zI_mul, zI_n, ne_eq]) <;> (first | rw [zI_lt (by omega) (by omega)] | rw [zI_le (by omega) (by omega)] | rw [zI_eq (by omega) (by omega)]); try omega)) (m_tk a hk)
  · rw [if_neg q] at hk; refine brT (by ((try simp only [zI_lit, zI_neg, zI_add, zI_sub, zI_mul, zI_n, ne_eq]) <;> (first | rw [zI_lt (by omega) (by omega)] | rw [zI_le (by omega) (by omega)] | rw [zI_eq (by omega) (by omega)]); try omega)) ?_
    by_cases q2 : h < w
    · refine brF (by ((try simp only [zI_lit, zI_neg, zI_add, zI_sub, zI_mul, zI_n, ne_eq]) <;> (first | rw [zI_lt (by omega) (by omega)] | rw [zI_le (by omega) (by omega)] | rw [zI_eq (by omega) (by omega)]); try omega)) ?_
      by_cases q3 : br = 1
      · rw [if_pos ⟨q2, q3⟩] at hk; exact brF (by ((try simp only [zI_lit, zI_neg, zI_add, zI_sub, zI_mul, zI_n, ne_eq]) <;> (first | rw [zI_lt (by omega) (by omega)] | rw [zI_le (by omega) (by omega)] | rw [zI_eq (by omega) (by omega)]); try omega)) (m_ly a hk)
      · rw [if_neg (fun z => q3 z.2)] at hk; exact brT (by ((try simp only [zI_lit, zI_neg, zI_add, zI_sub, zI_mul, zI_n, ne_eq]) <;> (first | rw [zI_lt (by omega) (by omega)] | rw [zI_le (by omega) (by omega)] | rw [zI_eq (by omega) (by omega)]); try omega)) hk
    · rw [if_neg (fun z => q2 z.1)] at hk; exact brT (by ((try simp only [zI_lit, zI_neg, zI_add, zI_sub, zI_mul, zI_n, ne_eq]) <;> (first | rw [zI_lt (by omega) (by omega)] | rw [zI_le (by omega) (by omega)] | rw [zI_eq (by omega) (by omega)]); try omega)) hk
theorem m_act {np : Nat} {now : Nat → Int32} {P : Nat → Nat → Int} (h : rowsIn 6 np (0 + 6) now P) (hP : okP np P) {p : Nat} (hp : p < np) {a d : Int} (ha : 0 ≤ a ∧ a ≤ 30) (hd : -2 ≤ d ∧ d ≤ 1) {k : Int32 → Prop} (hk : k (zI (dd (P p) a d))) : pX12_actOf now (zI p) (zI a) (zI d) k := by
  obtain ⟨o1, o2, o3, o4, o5⟩ := hP.2.1 p hp
  unfold pX12_actOf
  refine m_p h hP.1 hp 1 rfl (by omega) (m_p h hP.1 hp 2 rfl (by omega) ?_)
  have hh : pX12_actOf_23 now k (zI p) (zI a) (zI d) (zI (P p 1)) (zI (P p 2)) := by
    unfold pX12_actOf_23
    refine m_p h hP.1 hp 3 rfl (by omega) ?_
    unfold dd at hk
    refine ⟨fun e => ?_, fun e => ?_, fun e => ?_, fun e => ?_, fun e => ?_, fun e0 e1 e2 e3 e4 => ?_⟩
    · rw [z0, zI_eq (by omega) (by omega)] at e
      rw [if_pos e] at hk; exact m_tk ha hk
    · rw [z1, zI_eq (by omega) (by omega)] at e
      rw [if_neg (by omega), if_pos e] at hk
      by_cases q : P p 2 = 1
      · rw [if_pos q] at hk; exact brF (by ((try simp only [zI_lit, zI_neg, zI_add, zI_sub, zI_mul, zI_n, ne_eq]) <;> (first | rw [zI_lt (by omega) (by omega)] | rw [zI_le (by omega) (by omega)] | rw [zI_eq (by omega) (by omega)]); try omega)) (m_ly ha hk)
      · rw [if_neg q] at hk; exact brT (by ((try simp only [zI_lit, zI_neg, zI_add, zI_sub, zI_mul, zI_n, ne_eq]) <;> (first | rw [zI_lt (by omega) (by omega)] | rw [zI_le (by omega) (by omega)] | rw [zI_eq (by omega) (by omega)]); try omega)) (m_tk ha hk)
    · rw [z2, zI_eq (by omega) (by omega)] at e
      rw [if_neg (by omega), if_neg (by omega), if_pos e] at hk
      exact brF (by ((try simp only [zI_lit, zI_neg, zI_add, zI_sub, zI_mul, zI_n, ne_eq]) <;> (first | rw [zI_lt (by omega) (by omega)] | rw [zI_le (by omega) (by omega)] | rw [zI_eq (by omega) (by omega)]); try omega)) (m_ws ha o4 o3 hk)
    · rw [z3, zI_eq (by omega) (by omega)] at e
      rw [if_neg (by omega), if_neg (by omega), if_neg (by omega), if_pos e] at hk
      by_cases q : 0 < d
      · rw [if_pos q] at hk; exact brF (by ((try simp only [zI_lit, zI_neg, zI_add, zI_sub, zI_mul, zI_n, ne_eq]) <;> (first | rw [zI_lt (by omega) (by omega)] | rw [zI_le (by omega) (by omega)] | rw [zI_eq (by omega) (by omega)]); try omega)) (m_tk ha hk)
      · rw [if_neg q] at hk
        refine brT (by ((try simp only [zI_lit, zI_neg, zI_add, zI_sub, zI_mul, zI_n, ne_eq]) <;> (first | rw [zI_lt (by omega) (by omega)] | rw [zI_le (by omega) (by omega)] | rw [zI_eq (by omega) (by omega)]); try omega)) ?_
        by_cases q1 : d < 0
        · refine brF (by ((try simp only [zI_lit, zI_neg, zI_add, zI_sub, zI_mul, zI_n, ne_eq]) <;> (first | rw [zI_lt (by omega) (by omega)] | rw [zI_le (by omega) (by omega)] | rw [zI_eq (by omega) (by omega)]); try omega)) ?_
          by_cases q2 : P p 2 = 1
          · rw [if_pos ⟨q1, q2⟩] at hk; exact brF (by ((try simp only [zI_lit, zI_neg, zI_add, zI_sub, zI_mul, zI_n, ne_eq]) <;> (first | rw [zI_lt (by omega) (by omega)] | rw [zI_le (by omega) (by omega)] | rw [zI_eq (by omega) (by omega)]); try omega)) (m_ly ha hk)
          · rw [if_neg (fun z => q2 z.2)] at hk; exact brT (by ((try simp only [zI_lit, zI_neg, zI_add, zI_sub, zI_mul, zI_n, ne_eq]) <;> (first | rw [zI_lt (by omega) (by omega)] | rw [zI_le (by omega) (by omega)] | rw [zI_eq (by omega) (by omega)]); try omega)) hk
        · rw [if_neg (fun z => q1 z.1)] at hk; exact brT (by ((try simp only [zI_lit, zI_neg, zI_add, zI_sub, zI_mul, zI_n, ne_eq]) <;> (first | rw [zI_lt (by omega) (by omega)] | rw [zI_le (by omega) (by omega)] | rw [zI_eq (by omega) (by omega)]); try omega)) hk
    · rw [z4, zI_eq (by omega) (by omega)] at e
      rw [if_neg (by omega), if_neg (by omega), if_neg (by omega), if_neg (by omega), if_pos e] at hk
      by_cases q : 1 < a
      · rw [if_pos q] at hk; exact brF (by ((try simp only [zI_lit, zI_neg, zI_add, zI_sub, zI_mul, zI_n, ne_eq]) <;> (first | rw [zI_lt (by omega) (by omega)] | rw [zI_le (by omega) (by omega)] | rw [zI_eq (by omega) (by omega)]); try omega)) hk
      · rw [if_neg q] at hk; refine brT (by ((try simp only [zI_lit, zI_neg, zI_add, zI_sub, zI_mul, zI_n, ne_eq]) <;> (first | rw [zI_lt (by omega) (by omega)] | rw [zI_le (by omega) (by omega)] | rw [zI_eq (by omega) (by omega)]); try omega)) ?_
        rw [z0, zI_sub, Int.zero_sub]; exact hk
    · rw [z0, zI_eq (by omega) (by omega)] at e0
      rw [z1, zI_eq (by omega) (by omega)] at e1
      rw [z2, zI_eq (by omega) (by omega)] at e2
      rw [z3, zI_eq (by omega) (by omega)] at e3
      rw [z4, zI_eq (by omega) (by omega)] at e4
      rw [if_neg (by omega), if_neg (by omega), if_neg (by omega), if_neg (by omega), if_neg (by omega)] at hk
      refine brT (by ((try simp only [zI_lit, zI_neg, zI_add, zI_sub, zI_mul, zI_n, ne_eq]) <;> (first | rw [zI_lt (by omega) (by omega)] | rw [zI_le (by omega) (by omega)] | rw [zI_eq (by omega) (by omega)]); try omega)) (m_p h hP.1 hp 0 rfl (by omega) ?_)
      rw [x_even (by omega)]
      by_cases q : P p 0 % 2 = 0
      · rw [if_pos q] at hk; exact brF (by ((try simp only [zI_lit, zI_neg, zI_add, zI_sub, zI_mul, zI_n, ne_eq]) <;> (first | rw [zI_lt (by omega) (by omega)] | rw [zI_le (by omega) (by omega)] | rw [zI_eq (by omega) (by omega)]); try omega)) (m_ws ha o4 o3 hk)
      · rw [if_neg q] at hk; exact brT (by ((try simp only [zI_lit, zI_neg, zI_add, zI_sub, zI_mul, zI_n, ne_eq]) <;> (first | rw [zI_lt (by omega) (by omega)] | rw [zI_le (by omega) (by omega)] | rw [zI_eq (by omega) (by omega)]); try omega)) hk
  by_cases q : P p 2 = 1
  · rw [q] at hh ⊢; exact brT rfl hh
  · have q' : P p 2 = 0 := by omega
    rw [q'] at hh ⊢; exact brF (by ((try simp only [zI_lit, zI_neg, zI_add, zI_sub, zI_mul, zI_n, ne_eq]) <;> (first | rw [zI_lt (by omega) (by omega)] | rw [zI_le (by omega) (by omega)] | rw [zI_eq (by omega) (by omega)]); try omega)) hh
/-! walks: n passers from the i-th on -/
def wk (P : Nat → Nat → Int) : Nat → Nat → Int → Int → Int × Int
  | 0, _, h, d => (h, d)
  | n + 1, i, h, d => wk P n (i + 1) (h + dd (P i) h d) (dd (P i) h d)
theorem wk_b (P : Nat → Nat → Int) : ∀ (n i : Nat) (h d : Int), 0 ≤ h ∧ h ≤ 30 → -2 ≤ d ∧ d ≤ 1 → (0 ≤ (wk P n i h d).1 ∧ (wk P n i h d).1 ≤ 30) ∧ -2 ≤ (wk P n i h d).2 ∧ (wk P n i h d).2 ≤ 1
  | 0, _, _, _, a, b => ⟨a, b⟩
  | n + 1, i, h, d, a, b => wk_b P n (i + 1) _ _ (@dd_b (P i) h d a).2 (@dd_b (P i) h d a).1
theorem wk_add (P : Nat → Nat → Int) : ∀ (n m i : Nat) (h d : Int), wk P (n + m) i h d = wk P m (i + n) (wk P n i h d).1 (wk P n i h d).2
  | 0, m, i, h, d => by rw [Nat.zero_add]; rfl
  | n + 1, m, i, h, d => by
    rw [show n + 1 + m = (n + m) + 1 by omega]
    show wk P (n + m) (i + 1) _ _ = _
    rw [wk_add P n m (i + 1), show i + 1 + n = i + (n + 1) by omega]; rfl
theorem wk_s (P : Nat → Nat → Int) (n i : Nat) (h d : Int) : wk P (n + 1) i h d = ((wk P n i h d).1 + dd (P (i + n)) (wk P n i h d).1 (wk P n i h d).2, dd (P (i + n)) (wk P n i h d).1 (wk P n i h d).2) := by
  rw [wk_add]; rfl
theorem x_walk15 {np : Nat} {cells : Nat → Int32} {P : Nat → Nat → Int} (hx : rowsIn 6 np 0 cells P) (hP : okP np P) {kx : Int32 → Int32 → Prop} : ∀ (n i : Nat) (h d : Int), i + n ≤ np → 0 ≤ h ∧ h ≤ 30 → -2 ≤ d ∧ d ≤ 1 → kx (zI (wk P n i h d).1) (zI (wk P n i h d).2) → pX5_walk_15 cells kx (n + 1) (zI ((i + n : Nat) : Int)) (zI h) (zI d) (zI i)
  | 0, i, h, d, hi, a, b, hk => brT (by have := hP.1; ((try simp only [zI_lit, zI_neg, zI_add, zI_sub, zI_mul, zI_n, ne_eq]) <;> (first | rw [zI_lt (by omega) (by omega)] | rw [zI_le (by omega) (by omega)] | rw [zI_eq (by omega) (by omega)]); try omega)) hk
  | n + 1, i, h, d, hi, a, b, hk => by
    have h12 := hP.1
    refine brF (by ((try simp only [zI_lit, zI_neg, zI_add, zI_sub, zI_mul, zI_n, ne_eq]) <;> (first | rw [zI_lt (by omega) (by omega)] | rw [zI_le (by omega) (by omega)] | rw [zI_eq (by omega) (by omega)]); try omega)) (x_deed hx hP (by omega) a b ?_)
    have q := x_walk15 hx hP n (i + 1) _ _ (by omega) (@dd_b (P i) h d a).2 (@dd_b (P i) h d a).1 hk
    rw [zI_add, z1, zI_add, show (i + (n + 1) : Nat) = i + 1 + n by omega]
    exact q
def sd (h d : Int) : Int := h * 4 + d + 2
theorem x_walk {np : Nat} {cells : Nat → Int32} {P : Nat → Nat → Int} (hx : rowsIn 6 np 0 cells P) (hP : okP np P) {k : Int32 → Prop} (n i j : Nat) (hj : j = i + n) (h d : Int) (hi : i + n ≤ np) (a : 0 ≤ h ∧ h ≤ 30) (b : -2 ≤ d ∧ d ≤ 1) (hk : k (zI (sd (wk P n i h d).1 (wk P n i h d).2))) : pX5_walk cells (zI i) (zI j) (zI (sd h d)) k := by
  unfold pX5_walk pX11_highOf pX11_didOf
  have e1 : zI (sd h d) / 4 = zI h := by
    unfold sd
    rw [zI_div4 (by omega)]; refine zI_eqI ?_; omega
  have e2 : zI (sd h d) - zI h * 4 + -2 = zI d := by unfold sd; ((try simp only [zI_lit, zI_neg, zI_add, zI_sub, zI_mul, zI_n]) <;> (first | rfl | (refine zI_eqI ?_; omega)))
  rw [e1, e2, hj]
  refine ⟨n + 1, x_walk15 hx hP n i h d hi a b ?_⟩
  unfold pX11_stand
  have e3 : zI (wk P n i h d).1 * 4 + zI (wk P n i h d).2 - -2 = zI (sd (wk P n i h d).1 (wk P n i h d).2) := by unfold sd; ((try simp only [zI_lit, zI_neg, zI_add, zI_sub, zI_mul, zI_n]) <;> (first | rfl | (refine zI_eqI ?_; omega)))
  rw [e3]; exact hk
theorem x_highOf {h d : Int} {k : Int32 → Prop} (a : 0 ≤ h ∧ h ≤ 30) (b : -2 ≤ d ∧ d ≤ 1) (hk : k (zI h)) : pX11_highOf (zI (sd h d)) k := by
  unfold pX11_highOf sd
  rw [zI_div4 (by omega), show (h * 4 + d + 2) / 4 = h by omega]; exact hk
theorem x_didOf {h d : Int} {k : Int32 → Prop} (a : 0 ≤ h ∧ h ≤ 30) (b : -2 ≤ d ∧ d ≤ 1) (hk : k (zI d)) : pX11_didOf (zI (sd h d)) k := by
  unfold pX11_didOf sd
  rw [zI_div4 (by omega), show (h * 4 + d + 2) / 4 = h by omega, show zI (h * 4 + d + 2) - zI h * 4 + -2 = zI d by ((try simp only [zI_lit, zI_neg, zI_add, zI_sub, zI_mul, zI_n]) <;> (first | rfl | (refine zI_eqI ?_; omega)))]; exact hk
theorem x_stand {h d : Int} {k : Int32 → Prop} (hk : k (zI (sd h d))) : pX11_stand (zI h) (zI d) k := by
  unfold pX11_stand
  rw [show zI h * 4 + zI d - -2 = zI (sd h d) by unfold sd; ((try simp only [zI_lit, zI_neg, zI_add, zI_sub, zI_mul, zI_n]) <;> (first | rfl | (refine zI_eqI ?_; omega)))]; exact hk
theorem x_first {h : Int} {k : Int32 → Prop} (hk : k (zI (sd h 0))) : pX5_firstStand (zI h) k := by
  unfold pX5_firstStand
  rw [z0]
  exact x_stand hk
/-! how many have passed -/
def cn (P : Nat → Nat → Int) (m : Int) : Nat → Nat
  | 0 => 0
  | n + 1 => if P n 0 ≤ m then cn P m n + 1 else cn P m n
theorem cn_le (P : Nat → Nat → Int) (m : Int) : ∀ n, cn P m n ≤ n
  | 0 => Nat.le_refl 0
  | n + 1 => by have := cn_le P m n; unfold cn; split <;> omega
/-- as minutes never fall, they are the first ones -/
theorem cn_iff {P : Nat → Nat → Int} (m : Int) : ∀ n, (∀ p q, p ≤ q → q < n → P p 0 ≤ P q 0) → ∀ i, i < n → (P i 0 ≤ m ↔ i < cn P m n)
  | 0, _, i, hi => absurd hi (by omega)
  | n + 1, hs, i, hi => by
    have ih := cn_iff (P := P) m n (fun p q a b => hs p q a (by omega))
    have h1 := cn_le P m n
    unfold cn
    by_cases q : P n 0 ≤ m
    · rw [if_pos q]
      have h3 := hs i n (by omega) (by omega)
      have h4 : n ≤ cn P m n := by
        cases n with
        | zero => omega
        | succ j => have := (ih j (by omega)).1 (Int.le_trans (hs j (j + 1) (by omega) (by omega)) q); omega
      omega
    · rw [if_neg q]
      by_cases e : i = n
      · rw [e]; constructor
        · intro z; exact absurd z q
        · intro z; omega
      · exact ih i (by omega)
theorem x_passed4 {np : Nat} {cells : Nat → Int32} {P : Nat → Nat → Int} (hx : rowsIn 6 np 0 cells P) (hP : okP np P) {kx : Int32 → Prop} {m : Int} (hm : -1 ≤ m ∧ m ≤ 99) : ∀ (n i : Nat), i + n = np → kx (zI ((cn P m np : Nat) : Int)) → pX5_passedUntil_4 (zI np) cells kx (n + 1) (zI m) (zI ((cn P m i : Nat) : Int)) (zI i)
  | 0, i, hi, hk => by
    have h12 := hP.1
    rw [show i = np by omega]
    exact brT (by ((try simp only [zI_lit, zI_neg, zI_add, zI_sub, zI_mul, zI_n, ne_eq]) <;> (first | rw [zI_lt (by omega) (by omega)] | rw [zI_le (by omega) (by omega)] | rw [zI_eq (by omega) (by omega)]); try omega)) hk
  | n + 1, i, hi, hk => by
    have h12 := hP.1
    obtain ⟨o1, o2, o3, o4, o5⟩ := hP.2.1 i (by omega)
    refine brF (by ((try simp only [zI_lit, zI_neg, zI_add, zI_sub, zI_mul, zI_n, ne_eq]) <;> (first | rw [zI_lt (by omega) (by omega)] | rw [zI_le (by omega) (by omega)] | rw [zI_eq (by omega) (by omega)]); try omega)) (x_p hx hP.1 (by omega) 0 rfl (by omega) ?_)
    have q := x_passed4 hx hP hm n (i + 1) (by omega) hk
    have e1 : zI (i : Int) + 1 = zI ((i + 1 : Nat) : Int) := by ((try simp only [zI_lit, zI_neg, zI_add, zI_sub, zI_mul, zI_n]) <;> (first | rfl | (refine zI_eqI ?_; omega)))
    rw [e1]
    unfold cn at q
    by_cases c : P i 0 ≤ m
    · rw [if_pos c] at q
      refine brF (by ((try simp only [zI_lit, zI_neg, zI_add, zI_sub, zI_mul, zI_n, ne_eq]) <;> (first | rw [zI_lt (by omega) (by omega)] | rw [zI_le (by omega) (by omega)] | rw [zI_eq (by omega) (by omega)]); try omega)) ?_
      have e2 : zI ((cn P m i : Nat) : Int) + 1 = zI ((cn P m i + 1 : Nat) : Int) := by ((try simp only [zI_lit, zI_neg, zI_add, zI_sub, zI_mul, zI_n]) <;> (first | rfl | (refine zI_eqI ?_; omega)))
      rw [e2]; exact q
    · rw [if_neg c] at q
      exact brT (by ((try simp only [zI_lit, zI_neg, zI_add, zI_sub, zI_mul, zI_n, ne_eq]) <;> (first | rw [zI_lt (by omega) (by omega)] | rw [zI_le (by omega) (by omega)] | rw [zI_eq (by omega) (by omega)]); try omega)) q
theorem x_passed {np : Nat} {cells : Nat → Int32} {P : Nat → Nat → Int} (hx : rowsIn 6 np 0 cells P) (hP : okP np P) {k : Int32 → Prop} {m : Int} (hm : -1 ≤ m ∧ m ≤ 99) (hk : k (zI ((cn P m np : Nat) : Int))) : pX5_passedUntil (zI np) cells (zI m) k :=
by
  unfold pX5_passedUntil
  rw [z0]
  exact ⟨np + 1, x_passed4 hx hP hm np 0 (by omega) hk⟩
theorem x_highIn {np : Nat} {cells : Nat → Int32} {P : Nat → Nat → Int} (hx : rowsIn 6 np 0 cells P) (hP : okP np P) {k : Int32 → Prop} {m h : Int} (hm : -1 ≤ m ∧ m ≤ 99) (hh : 0 ≤ h ∧ h ≤ 30) (hk : k (zI (wk P (cn P m np) 0 h 0).1)) : pX5_highIn (zI h) (zI np) cells (zI m) k := by
  have b := wk_b P (cn P m np) 0 h 0 hh (by omega)
  unfold pX5_highIn
  rw [z0]
  exact x_passed hx hP hm (x_first (x_walk hx hP (cn P m np) 0 _ (by omega) h 0 (by have := cn_le P m np; omega) hh (by omega) (x_highOf b.1 b.2 hk)))
