/-! tools: branches, numbers, a deed, a walk -/
theorem brT {c A B : Prop} (h : c) (a : A) : (c → A) ∧ (¬ c → B) := ⟨fun _ => a, fun z => absurd h z⟩
theorem brF {c A B : Prop} (h : ¬ c) (b : B) : (c → A) ∧ (¬ c → B) := ⟨fun z => absurd z h, fun _ => b⟩
theorem brD {c d A B : Prop} (e : c = d) (a : d → A) (b : ¬ d → B) : (c → A) ∧ (¬ c → B) := by subst e; exact ⟨a, b⟩
theorem z0 : (0 : Int32) = zI 0 := rfl
theorem z1 : (1 : Int32) = zI 1 := rfl
theorem z2 : (2 : Int32) = zI 2 := rfl
theorem z3 : (3 : Int32) = zI 3 := rfl
theorem z4 : (4 : Int32) = zI 4 := rfl
theorem z5 : (5 : Int32) = zI 5 := rfl
theorem z6 : (6 : Int32) = zI 6 := rfl
theorem zn1 : (-1 : Int32) = zI (-1) := rfl
theorem zn2 : (-2 : Int32) = zI (-2) := rfl
theorem zI_eqI {a b : Int} (h : a = b) : zI a = zI b := by rw [h]
theorem zI_div {a b : Int} (ha : 0 ≤ a ∧ a < 2147483648) (hb : 0 < b ∧ b < 2147483648) : zI a / zI b = zI (a / b) := by
  apply Int32.toInt_inj.1
  rw [Int32.toInt_div, zI_toInt (by omega), zI_toInt (by omega), Int.tdiv_eq_ediv_of_nonneg ha.1]
  have h1 : 0 ≤ a / b := Int.ediv_nonneg ha.1 (by omega)
  have h2 : a / b ≤ a := Int.ediv_le_self b ha.1
  rw [zI_toInt (by omega), zI_bmod (by omega) (by omega)]
theorem zI_div2 {a : Int} (ha : 0 ≤ a ∧ a < 2147483648) : zI a / 2 = zI (a / 2) := by rw [z2]; exact zI_div ha (by omega)
theorem zI_div4 {a : Int} (ha : 0 ≤ a ∧ a < 2147483648) : zI a / 4 = zI (a / 4) := by rw [z4]; exact zI_div ha (by omega)
/-! a deed -/
def tk (h : Int) : Int := if 0 < h then -1 else 0
def ly (h : Int) : Int := if h < 30 then 1 else 0
def ws (br w h : Int) : Int := if w < h then tk h else if h < w ∧ br = 1 then ly h else 0
def dd (R : Nat → Int) (h d : Int) : Int :=
  if R 1 = 0 then tk h else if R 1 = 1 then (if R 2 = 1 then ly h else tk h) else if R 1 = 2 then ws (R 2) (R 3) h
  else if R 1 = 3 then (if 0 < d then tk h else if d < 0 ∧ R 2 = 1 then ly h else 0)
  else if R 1 = 4 then (if 1 < h then -2 else -h) else if R 0 % 2 = 0 then ws (R 2) (R 3) h else 0
theorem tk_b {h : Int} (a : 0 ≤ h ∧ h ≤ 30) : (-1 ≤ tk h ∧ tk h ≤ 0) ∧ 0 ≤ h + tk h := by unfold tk; split <;> omega
theorem ly_b {h : Int} (a : 0 ≤ h ∧ h ≤ 30) : (0 ≤ ly h ∧ ly h ≤ 1) ∧ h + ly h ≤ 30 := by unfold ly; split <;> omega
theorem ws_b {br w h : Int} (a : 0 ≤ h ∧ h ≤ 30) : (-2 ≤ ws br w h ∧ ws br w h ≤ 1) ∧ 0 ≤ h + ws br w h ∧ h + ws br w h ≤ 30 := by
  have := tk_b a
  have := ly_b a
  unfold ws; split
  · omega
  · split <;> omega
theorem dd_b {R : Nat → Int} {h d : Int} (a : 0 ≤ h ∧ h ≤ 30) : (-2 ≤ dd R h d ∧ dd R h d ≤ 1) ∧ 0 ≤ h + dd R h d ∧ h + dd R h d ≤ 30 := by
  have h1 := tk_b a
  have h2 := ly_b a
  have h3 := @ws_b (R 2) (R 3) h a
  unfold dd
  repeat' split
  all_goals omega
theorem x_tk {h : Int} {k : Int32 → Prop} (a : 0 ≤ h ∧ h ≤ 30) (hk : k (zI (tk h))) : pX9_takeOne (zI h) k := by
  unfold pX9_takeOne
  unfold tk at hk
  by_cases q : 0 < h
  · rw [if_pos q] at hk; exact brF (by ((try simp only [zI_lit, zI_neg, zI_add, zI_sub, zI_mul, zI_n, ne_eq]) <;> (first | rw [zI_lt (by omega) (by omega)] | rw [zI_le (by omega) (by omega)] | rw [zI_eq (by omega) (by omega)]); try omega)) hk
  · rw [if_neg q] at hk; exact brT (by ((try simp only [zI_lit, zI_neg, zI_add, zI_sub, zI_mul, zI_n, ne_eq]) <;> (first | rw [zI_lt (by omega) (by omega)] | rw [zI_le (by omega) (by omega)] | rw [zI_eq (by omega) (by omega)]); try omega)) hk
theorem x_ly {h : Int} {k : Int32 → Prop} (a : 0 ≤ h ∧ h ≤ 30) (hk : k (zI (ly h))) : pX9_layOne (zI h) k := by
  unfold pX9_layOne
  unfold ly at hk
  by_cases q : h < 30
  · rw [if_pos q] at hk; exact brF (by ((try simp only [zI_lit, zI_neg, zI_add, zI_sub, zI_mul, zI_n, ne_eq]) <;> (first | rw [zI_lt (by omega) (by omega)] | rw [zI_le (by omega) (by omega)] | rw [zI_eq (by omega) (by omega)]); try omega)) hk
  · rw [if_neg q] at hk; exact brT (by ((try simp only [zI_lit, zI_neg, zI_add, zI_sub, zI_mul, zI_n, ne_eq]) <;> (first | rw [zI_lt (by omega) (by omega)] | rw [zI_le (by omega) (by omega)] | rw [zI_eq (by omega) (by omega)]); try omega)) hk
theorem m_tk {h : Int} {k : Int32 → Prop} (a : 0 ≤ h ∧ h ≤ 30) (hk : k (zI (tk h))) : pX12_takeOne (zI h) k := x_tk a hk
theorem m_ly {h : Int} {k : Int32 → Prop} (a : 0 ≤ h ∧ h ≤ 30) (hk : k (zI (ly h))) : pX12_layOne (zI h) k := x_ly a hk
theorem x_ws {br w h : Int} {k : Int32 → Prop} (a : 0 ≤ h ∧ h ≤ 30) (b : 0 ≤ w ∧ w ≤ 30) (c : 0 ≤ br ∧ br ≤ 1) (hk : k (zI (ws br w h))) : pX10_act (zI br) (zI w) (zI h) k := by
  unfold pX10_act
  unfold ws at hk
  by_cases q : w < h
  · rw [if_pos q] at hk; exact brF (by ((try simp only [zI_lit, zI_neg, zI_add, zI_sub, zI_mul, zI_n, ne_eq]) <;> (first | rw [zI_lt (by omega) (by omega)] | rw [zI_le (by omega) (by omega)] | rw [zI_eq (by omega) (by omega)]); try omega)) (x_tk a hk)
  · rw [if_neg q] at hk; refine brT (by ((try simp only [zI_lit, zI_neg, zI_add, zI_sub, zI_mul, zI_n, ne_eq]) <;> (first | rw [zI_lt (by omega) (by omega)] | rw [zI_le (by omega) (by omega)] | rw [zI_eq (by omega) (by omega)]); try omega)) ?_
    by_cases q2 : h < w
    · refine brF (by ((try simp only [zI_lit, zI_neg, zI_add, zI_sub, zI_mul, zI_n, ne_eq]) <;> (first | rw [zI_lt (by omega) (by omega)] | rw [zI_le (by omega) (by omega)] | rw [zI_eq (by omega) (by omega)]); try omega)) ?_
      by_cases q3 : br = 1
      · rw [if_pos ⟨q2, q3⟩] at hk; exact brT (by ((try simp only [zI_lit, zI_neg, zI_add, zI_sub, zI_mul, zI_n, ne_eq]) <;> (first | rw [zI_lt (by omega) (by omega)] | rw [zI_le (by omega) (by omega)] | rw [zI_eq (by omega) (by omega)]); try omega)) (x_ly a hk)
      · rw [if_neg (fun z => q3 z.2)] at hk; exact brF (by ((try simp only [zI_lit, zI_neg, zI_add, zI_sub, zI_mul, zI_n, ne_eq]) <;> (first | rw [zI_lt (by omega) (by omega)] | rw [zI_le (by omega) (by omega)] | rw [zI_eq (by omega) (by omega)]); try omega)) hk
    · rw [if_neg (fun z => q2 z.1)] at hk; exact brT (by ((try simp only [zI_lit, zI_neg, zI_add, zI_sub, zI_mul, zI_n, ne_eq]) <;> (first | rw [zI_lt (by omega) (by omega)] | rw [zI_le (by omega) (by omega)] | rw [zI_eq (by omega) (by omega)]); try omega)) hk
