/-! items: the text as rows of numbers -/
def nn (w : Int) : Nat := if w = 1 then 4 else if w = 3 then 3 else if w = 2 then 2 else if w = 4 then 2 else 1
theorem nn_b (w : Int) : 1 ≤ nn w ∧ nn w ≤ 4 := by
  unfold nn
  repeat' split
  all_goals omega
def st2 (I : Nat → Nat → Int) (m c : Nat) (x : Int) : Nat → Nat → Int := fun a b => if a = m ∧ b = c then x else I a b
theorem st2_s (I : Nat → Nat → Int) (m c : Nat) (x : Int) : st2 I m c x m c = x := by unfold st2; rw [if_pos ⟨rfl, rfl⟩]
theorem st2_n {I : Nat → Nat → Int} {m c a b : Nat} {x : Int} (h : ¬ (a = m ∧ b = c)) : st2 I m c x a b = I a b := by unfold st2; rw [if_neg h]
/-- md: 0 between items, 1 a stop is due, r + 2: r + 1 numbers are due -/
def pf (v : Nat → Int) (t : Nat) : Nat → Nat → Nat → Nat → Nat → (Nat → Nat → Int) → Int × Nat × (Nat → Nat → Int)
  | 0, _, _, _, m, I => (-7, m, I)
  | F + 1, 0, _, i, m, I => if qs v t i = 0 then (-1, m, I) else if qs v t i = 1 ∧ ¬ wd v t i = 9 then pf v t F (nn (wd v t i) + 1) 1 (qe v t i) m (st2 I m 0 (wd v t i)) else ((qp v t i : Int), m, I)
  | F + 1, 1, _, i, m, I => if qs v t i = 3 then pf v t F 0 0 (qe v t i) (m + 1) I else ((qp v t i : Int), m, I)
  | F + 1, r + 2, c, i, m, I => if qs v t i = 2 then pf v t F (r + 1) (c + 1) (qe v t i) m (st2 I m c (qn v t i)) else ((qp v t i : Int), m, I)
theorem pf_0 (v : Nat → Int) (t F c i m : Nat) (I : Nat → Nat → Int) : pf v t (F + 1) 0 c i m I = if qs v t i = 0 then (-1, m, I) else if qs v t i = 1 ∧ ¬ wd v t i = 9 then pf v t F (nn (wd v t i) + 1) 1 (qe v t i) m (st2 I m 0 (wd v t i)) else ((qp v t i : Int), m, I) := rfl
theorem pf_1 (v : Nat → Int) (t F c i m : Nat) (I : Nat → Nat → Int) : pf v t (F + 1) 1 c i m I = if qs v t i = 3 then pf v t F 0 0 (qe v t i) (m + 1) I else ((qp v t i : Int), m, I) := rfl
theorem pf_2 (v : Nat → Int) (t F r c i m : Nat) (I : Nat → Nat → Int) : pf v t (F + 1) (r + 2) c i m I = if qs v t i = 2 then pf v t F (r + 1) (c + 1) (qe v t i) m (st2 I m c (qn v t i)) else ((qp v t i : Int), m, I) := rfl
/-- a row that stands: its sort and its numbers -/
def rG (cells : Nat → Int32) (I : Nat → Nat → Int) (k : Nat) : Prop := cells (5 * k) = zI (I k 0) ∧ (0 ≤ I k 0 ∧ I k 0 ≤ 5) ∧ ∀ q, 1 ≤ q → q ≤ nn (I k 0) → cells (5 * k + q) = zI (I k q) ∧ 0 ≤ I k q ∧ I k q ≤ 99
def rA (cells : Nat → Int32) (I : Nat → Nat → Int) (m : Nat) : Prop := ∀ k, k < m → rG cells I k
theorem rA_upd {cells : Nat → Int32} {I : Nat → Nat → Int} {m : Nat} (h : rA cells I m) (j : Nat) (hj : 5 * m ≤ j) (x : Int32) : rA (upd cells j x) I m := fun k hk => by
  obtain ⟨h1, h2, h3⟩ := h k hk
  have b := nn_b (I k 0)
  refine ⟨by rw [upd_n _ _ (by omega)]; exact h1, h2, fun q a b => ?_⟩
  rw [upd_n _ _ (by omega)]
  exact h3 q a b
theorem rA_st2 {cells : Nat → Int32} {I : Nat → Nat → Int} {m c : Nat} {x : Int} (h : rA cells I m) : rA cells (st2 I m c x) m := fun k hk => by
  obtain ⟨h1, h2, h3⟩ := h k hk
  have e : ∀ q, st2 I m c x k q = I k q := fun q => st2_n (by omega)
  refine ⟨by rw [e]; exact h1, by rw [e]; exact h2, fun q a b => ?_⟩
  rw [e] at b ⊢
  exact h3 q a b
/-- the row at hand: numbers ahead of column c -/
def rH (cells : Nat → Int32) (I : Nat → Nat → Int) (m c : Nat) : Prop := ∀ q, 1 ≤ q → q < c → cells (5 * m + q) = zI (I m q) ∧ 0 ≤ I m q ∧ I m q ≤ 99
def ko (r : Int × Nat × (Nat → Nat → Int)) (K : Int32 → Int32 → Int32 → Int32 → (Nat → Int32) → Prop) : Prop := (r.1 = -1 → ∀ (pl nx : Int32) (cells : Nat → Int32), r.2.1 ≤ 33 → rA cells r.2.2 r.2.1 → K (-1) pl nx (zI r.2.1) cells) ∧ (¬ r.1 = -1 → 0 ≤ r.1 ∧ r.1 ≤ 200 → ∀ (pl nx sz : Int32) (cells : Nat → Int32), K (zI r.1) pl nx sz cells)
theorem x_a5 {cells : Nat → Int32} {m c : Nat} {C : Int32} (eC : C = zI c) (hm : m < 33) (hc : c < 5) {k : Int32 → Prop} (hk : k (cells (5 * m + c))) : pX7_at 165 5 cells (zI m) C k := by
  rw [eC, z5, x_at (by omega) (by omega), if_pos (by omega), show ((m : Int) * 5 + (c : Int)).toNat = 5 * m + c by omega]
  exact hk
theorem x_nn {w : Int} (hw : 0 ≤ w ∧ w ≤ 5) {k : Int32 → Prop} (hk : k (zI (nn w))) : pX6_numbersIn (zI w) k := by
  unfold pX6_numbersIn
  unfold nn at hk
  refine ⟨fun e => ?_, fun e => ?_, fun e => ?_, fun e => ?_, fun e1 e2 e3 e4 => ?_⟩
  · rw [z1, zI_eq (by omega) (by omega)] at e; rw [if_pos e] at hk; exact hk
  · rw [z2, zI_eq (by omega) (by omega)] at e; rw [if_neg (by omega), if_neg (by omega), if_pos e] at hk; exact hk
  · rw [z3, zI_eq (by omega) (by omega)] at e; rw [if_neg (by omega), if_pos e] at hk; exact hk
  · rw [z4, zI_eq (by omega) (by omega)] at e; rw [if_neg (by omega), if_neg (by omega), if_neg (by omega), if_pos e] at hk; exact hk
  · rw [z1, zI_eq (by omega) (by omega)] at e1
    rw [z2, zI_eq (by omega) (by omega)] at e2
    rw [z3, zI_eq (by omega) (by omega)] at e3
    rw [z4, zI_eq (by omega) (by omega)] at e4
    rw [if_neg (by omega), if_neg (by omega), if_neg (by omega), if_neg (by omega)] at hk; exact hk
section FF
variable {B : Nat → Int32} {v : Nat → Int} {t : Nat}
theorem x_ff (ht : t ≤ 200) (hB : ∀ i, i < t → B i = zI (v i)) (hv : ∀ i, i < t → -128 ≤ v i ∧ v i ≤ 127) {K : Int32 → Int32 → Int32 → Int32 → (Nat → Int32) → Prop} {kx : Int32 → Int32 → Int32 → (Nat → Int32) → Prop} : ∀ (F md c i m x4 : Nat) (I : Nat → Nat → Int) (cells : Nat → Int32) (pl X1 X2 X3 SZ : Int32), t < i + F → i ≤ t → x4 ≤ i → rA cells I m → 6 * m + (if md = 0 then 0 else 3 + c) ≤ i → (md = 0 → X1 = 0 ∧ SZ = zI m) → (0 < md → X1 = 1 ∧ X2 = zI m ∧ X3 = zI ((c : Int) - 1) ∧ SZ = zI ((m + 1 : Nat) : Int) ∧ 1 ≤ c ∧ (cells (5 * m) = zI (I m 0) ∧ 0 ≤ I m 0 ∧ I m 0 ≤ 5) ∧ rH cells I m c ∧ c + md = nn (I m 0) + 2) → ko (pf v t F md c i m I) K → pX6_findFault_21 (zI t) B K kx F X1 X2 X3 (zI x4) pl (zI i) SZ cells
  | 0, md, c, i, m, x4, I, cells, pl, X1, X2, X3, SZ, hF, hi, h4, hA, hm, h0, h1, hk => absurd hF (by omega)
  | F + 1, 0, c, i, m, x4, I, cells, pl, X1, X2, X3, SZ, hF, hi, h4, hA, hm, h0, h1, hk => by
    obtain ⟨rfl, rfl⟩ := h0 rfl
    rw [if_pos rfl] at hm
    have hp := qp_b v hi
    have qr := qs_r v t i
    have e4 : zI (x4 : Int) + 1 = zI ((x4 + 1 : Nat) : Int) := by ((try simp only [zI_lit, zI_neg, zI_add, zI_sub, zI_mul, zI_n]) <;> (first | rfl | (refine zI_eqI ?_; omega)))
    rw [pf_0] at hk
    refine brF (by ((try simp only [zI_lit, zI_neg, zI_add, zI_sub, zI_mul, zI_n, ne_eq]) <;> (first | rw [zI_lt (by omega) (by omega)] | rw [zI_le (by omega) (by omega)] | rw [zI_eq (by omega) (by omega)]); try omega)) (x_next ht hB hv hi (fun E eE => ?_))
    by_cases q0 : qs v t i = 0
    · rw [if_pos q0] at hk
      exact brT (by ((try simp only [zI_lit, zI_neg, zI_add, zI_sub, zI_mul, zI_n, ne_eq]) <;> (first | rw [zI_lt (by omega) (by omega)] | rw [zI_le (by omega) (by omega)] | rw [zI_eq (by omega) (by omega)]); try omega)) (br0 (hk.1 rfl _ _ cells (by show m ≤ 33; omega) hA))
    · rw [if_neg q0] at hk
      have he := qe_b v hi q0
      have bad : ¬ (qs v t i = 1 ∧ ¬ wd v t i = 9) → pX6_findFault_71 K (pX6_findFault_21 (zI t) B K kx F) (zI x4) (-1) (zI (qp v t i)) E (zI m) cells := fun g => by
        rw [if_neg g] at hk
        unfold pX6_findFault_71
        exact brT rfl (hk.2 (by show ¬ (qp v t i : Int) = -1; omega) (by show 0 ≤ (qp v t i : Int) ∧ (qp v t i : Int) ≤ 200; omega) _ _ _ _)
      refine brF (by ((try simp only [zI_lit, zI_neg, zI_add, zI_sub, zI_mul, zI_n, ne_eq]) <;> (first | rw [zI_lt (by omega) (by omega)] | rw [zI_le (by omega) (by omega)] | rw [zI_eq (by omega) (by omega)]); try omega)) (br0 ?_)
      by_cases q1 : qs v t i = 1
      · refine brT (by ((try simp only [zI_lit, zI_neg, zI_add, zI_sub, zI_mul, zI_n, ne_eq]) <;> (first | rw [zI_lt (by omega) (by omega)] | rw [zI_le (by omega) (by omega)] | rw [zI_eq (by omega) (by omega)]); try omega)) (x_word ht hB hv hi q1 (eE q0) ?_)
        by_cases w9 : wd v t i = 9
        · rw [if_pos w9, ← zn1]
          exact bad (fun z => z.2 w9)
        · have wr : 0 ≤ wd v t i ∧ wd v t i ≤ 5 := by
            rcases mg_r (ck v (qp v t i) (qe v t i - qp v t i)) with z | z
            · exact z
            · exact absurd z w9
          have wl4 := wd_len hi q1 w9
          have nb := nn_b (wd v t i)
          rw [if_neg w9]
          rw [if_pos ⟨q1, w9⟩] at hk
          unfold pX6_findFault_71
          refine brF (by ((try simp only [zI_lit, zI_neg, zI_add, zI_sub, zI_mul, zI_n, ne_eq]) <;> (first | rw [zI_lt (by omega) (by omega)] | rw [zI_le (by omega) (by omega)] | rw [zI_eq (by omega) (by omega)]); try omega)) (x_op (mo := 33) rfl (by omega) (by omega) (fun _ => ?_) (fun z => absurd z (by omega)))
          refine x_pt (w := 5) (c := 0) rfl rfl (by omega) (by omega) ?_
          rw [e4, eE q0]
          refine x_ff ht hB hv F (nn (wd v t i) + 1) 1 (qe v t i) m (x4 + 1) _ _ _ _ _ _ _ (by omega) (by omega) (by omega) (rA_st2 (rA_upd hA _ (by omega) _)) (by rw [if_neg (by omega)]; omega) (fun z => absurd z (by omega)) (fun _ => ⟨rfl, rfl, rfl, rfl, by omega, ⟨?_, ?_⟩, fun q a b => absurd b (by omega), ?_⟩) hk
          · show upd cells (5 * m) (zI (wd v t i)) (5 * m) = _
            rw [st2_s, upd_s]
          · rw [st2_s]; exact wr
          · rw [st2_s]; omega
      · exact brF (by ((try simp only [zI_lit, zI_neg, zI_add, zI_sub, zI_mul, zI_n, ne_eq]) <;> (first | rw [zI_lt (by omega) (by omega)] | rw [zI_le (by omega) (by omega)] | rw [zI_eq (by omega) (by omega)]); try omega)) (bad (fun z => q1 z.1))
  | F + 1, 1, c, i, m, x4, I, cells, pl, X1, X2, X3, SZ, hF, hi, h4, hA, hm, h0, h1, hk => by
    obtain ⟨rfl, rfl, rfl, rfl, hc, ⟨hs, hw⟩, hH, hn⟩ := h1 (by omega)
    rw [if_neg (by omega)] at hm
    have nb := nn_b (I m 0)
    have hp := qp_b v hi
    have qr := qs_r v t i
    have e4 : zI (x4 : Int) + 1 = zI ((x4 + 1 : Nat) : Int) := by ((try simp only [zI_lit, zI_neg, zI_add, zI_sub, zI_mul, zI_n]) <;> (first | rfl | (refine zI_eqI ?_; omega)))
    rw [pf_1] at hk
    have flt : ¬ qs v t i = 3 → ∀ a b c d, K (zI (qp v t i)) a b c d := fun g => by
      rw [if_neg g] at hk
      exact hk.2 (by show ¬ (qp v t i : Int) = -1; omega) (by show 0 ≤ (qp v t i : Int) ∧ (qp v t i : Int) ≤ 200; omega)
    refine brF (by ((try simp only [zI_lit, zI_neg, zI_add, zI_sub, zI_mul, zI_n, ne_eq]) <;> (first | rw [zI_lt (by omega) (by omega)] | rw [zI_le (by omega) (by omega)] | rw [zI_eq (by omega) (by omega)]); try omega)) (x_next ht hB hv hi (fun E eE => ?_))
    by_cases q0 : qs v t i = 0
    · refine brT (by ((try simp only [zI_lit, zI_neg, zI_add, zI_sub, zI_mul, zI_n, ne_eq]) <;> (first | rw [zI_lt (by omega) (by omega)] | rw [zI_le (by omega) (by omega)] | rw [zI_eq (by omega) (by omega)]); try omega)) (br1 ?_)
      have := qs_0.1 q0
      have q := flt (by omega) (zI (qp v t i)) E (zI ((m + 1 : Nat) : Int)) cells
      rw [show qp v t i = t by omega] at q ⊢
      exact q
    · have he := qe_b v hi q0
      refine brF (by ((try simp only [zI_lit, zI_neg, zI_add, zI_sub, zI_mul, zI_n, ne_eq]) <;> (first | rw [zI_lt (by omega) (by omega)] | rw [zI_le (by omega) (by omega)] | rw [zI_eq (by omega) (by omega)]); try omega)) (br1 (x_a5 (c := 0) rfl (by omega) (by omega) ?_))
      rw [show 5 * m + 0 = 5 * m from rfl, hs]
      refine x_nn hw (brT (by ((try simp only [zI_lit, zI_neg, zI_add, zI_sub, zI_mul, zI_n, ne_eq]) <;> (first | rw [zI_lt (by omega) (by omega)] | rw [zI_le (by omega) (by omega)] | rw [zI_eq (by omega) (by omega)]); try omega)) ?_)
      by_cases q3 : qs v t i = 3
      · rw [if_pos q3] at hk
        refine brT (by ((try simp only [zI_lit, zI_neg, zI_add, zI_sub, zI_mul, zI_n, ne_eq]) <;> (first | rw [zI_lt (by omega) (by omega)] | rw [zI_le (by omega) (by omega)] | rw [zI_eq (by omega) (by omega)]); try omega)) ?_
        rw [e4, eE q0]
        refine x_ff ht hB hv F 0 0 (qe v t i) (m + 1) (x4 + 1) I cells _ _ _ _ _ (by omega) (by omega) (by omega) (fun k hk => ?_) (by rw [if_pos rfl]; omega) (fun _ => ⟨rfl, rfl⟩) (fun z => absurd z (by omega)) hk
        by_cases z : k = m
        · rw [z]
          exact ⟨hs, hw, fun q a b => hH q a (by omega)⟩
        · exact hA k (by omega)
      · exact brF (by ((try simp only [zI_lit, zI_neg, zI_add, zI_sub, zI_mul, zI_n, ne_eq]) <;> (first | rw [zI_lt (by omega) (by omega)] | rw [zI_le (by omega) (by omega)] | rw [zI_eq (by omega) (by omega)]); try omega)) (flt q3 _ _ _ _)
  | F + 1, r + 2, c, i, m, x4, I, cells, pl, X1, X2, X3, SZ, hF, hi, h4, hA, hm, h0, h1, hk => by
    obtain ⟨rfl, rfl, rfl, rfl, hc, ⟨hs, hw⟩, hH, hn⟩ := h1 (by omega)
    rw [if_neg (by omega)] at hm
    have nb := nn_b (I m 0)
    have hp := qp_b v hi
    have qr := qs_r v t i
    have e4 : zI (x4 : Int) + 1 = zI ((x4 + 1 : Nat) : Int) := by ((try simp only [zI_lit, zI_neg, zI_add, zI_sub, zI_mul, zI_n]) <;> (first | rfl | (refine zI_eqI ?_; omega)))
    have e3 : zI ((c : Int) - 1) + 1 = zI (c : Int) := by ((try simp only [zI_lit, zI_neg, zI_add, zI_sub, zI_mul, zI_n]) <;> (first | rfl | (refine zI_eqI ?_; omega)))
    rw [pf_2] at hk
    have flt : ¬ qs v t i = 2 → ∀ a b c d, K (zI (qp v t i)) a b c d := fun g => by
      rw [if_neg g] at hk
      exact hk.2 (by show ¬ (qp v t i : Int) = -1; omega) (by show 0 ≤ (qp v t i : Int) ∧ (qp v t i : Int) ≤ 200; omega)
    refine brF (by ((try simp only [zI_lit, zI_neg, zI_add, zI_sub, zI_mul, zI_n, ne_eq]) <;> (first | rw [zI_lt (by omega) (by omega)] | rw [zI_le (by omega) (by omega)] | rw [zI_eq (by omega) (by omega)]); try omega)) (x_next ht hB hv hi (fun E eE => ?_))
    by_cases q0 : qs v t i = 0
    · refine brT (by ((try simp only [zI_lit, zI_neg, zI_add, zI_sub, zI_mul, zI_n, ne_eq]) <;> (first | rw [zI_lt (by omega) (by omega)] | rw [zI_le (by omega) (by omega)] | rw [zI_eq (by omega) (by omega)]); try omega)) (br1 ?_)
      have := qs_0.1 q0
      have q := flt (by omega) (zI (qp v t i)) E (zI ((m + 1 : Nat) : Int)) cells
      rw [show qp v t i = t by omega] at q ⊢
      exact q
    · have he := qe_b v hi q0
      refine brF (by ((try simp only [zI_lit, zI_neg, zI_add, zI_sub, zI_mul, zI_n, ne_eq]) <;> (first | rw [zI_lt (by omega) (by omega)] | rw [zI_le (by omega) (by omega)] | rw [zI_eq (by omega) (by omega)]); try omega)) (br1 (x_a5 (c := 0) rfl (by omega) (by omega) ?_))
      rw [show 5 * m + 0 = 5 * m from rfl, hs]
      refine x_nn hw (brF (by ((try simp only [zI_lit, zI_neg, zI_add, zI_sub, zI_mul, zI_n, ne_eq]) <;> (first | rw [zI_lt (by omega) (by omega)] | rw [zI_le (by omega) (by omega)] | rw [zI_eq (by omega) (by omega)]); try omega)) ?_)
      by_cases q2 : qs v t i = 2
      · rw [if_pos q2] at hk
        have qb := qn_b hi q2
        refine brT (by ((try simp only [zI_lit, zI_neg, zI_add, zI_sub, zI_mul, zI_n, ne_eq]) <;> (first | rw [zI_lt (by omega) (by omega)] | rw [zI_le (by omega) (by omega)] | rw [zI_eq (by omega) (by omega)]); try omega)) (x_num ht hB hi q2 (eE q0) ?_)
        rw [e3]
        refine x_pt (w := 5) (c := c) rfl rfl (by omega) (by omega) ?_
        rw [e4, eE q0]
        have e0 : st2 I m c (qn v t i) m 0 = I m 0 := st2_n (by omega)
        refine x_ff ht hB hv F (r + 1) (c + 1) (qe v t i) m (x4 + 1) _ _ _ _ _ _ _ (by omega) (by omega) (by omega) (rA_st2 (rA_upd hA _ (by omega) _)) (by rw [if_neg (by omega)]; omega) (fun z => absurd z (by omega)) (fun _ => ⟨rfl, rfl, by ((try simp only [zI_lit, zI_neg, zI_add, zI_sub, zI_mul, zI_n]) <;> (first | rfl | (refine zI_eqI ?_; omega))), rfl, by omega, ⟨?_, ?_⟩, fun q a b => ?_, ?_⟩) hk
        · rw [e0, upd_n _ _ (by omega)]; exact hs
        · rw [e0]; exact hw
        · by_cases z : q = c
          · rw [z, st2_s, upd_s]
            exact ⟨rfl, qb⟩
          · rw [st2_n (by omega), upd_n _ _ (by omega)]
            exact hH q a (by omega)
        · rw [e0]; omega
      · exact brF (by ((try simp only [zI_lit, zI_neg, zI_add, zI_sub, zI_mul, zI_n, ne_eq]) <;> (first | rw [zI_lt (by omega) (by omega)] | rw [zI_le (by omega) (by omega)] | rw [zI_eq (by omega) (by omega)]); try omega)) (flt q2 _ _ _ _)
end FF
/-! the reference reads -/
theorem qm_8 {v : Nat → Int} {t i : Nat} : qm v t i = 8 ↔ qs v t i = 0 := by
  have qr := qs_r v t i
  have w := mg_r (ck v (qp v t i) (qe v t i - qp v t i))
  have ww : wd v t i = mg (ck v (qp v t i) (qe v t i - qp v t i)) := rfl
  unfold qm
  repeat' split
  all_goals omega
theorem qm_6 {v : Nat → Int} {t i : Nat} : qm v t i = 6 ↔ qs v t i = 2 := by
  have qr := qs_r v t i
  have w := mg_r (ck v (qp v t i) (qe v t i - qp v t i))
  have ww : wd v t i = mg (ck v (qp v t i) (qe v t i - qp v t i)) := rfl
  unfold qm
  repeat' split
  all_goals omega
theorem qm_7 {v : Nat → Int} {t i : Nat} : qm v t i = 7 ↔ qs v t i = 3 := by
  have qr := qs_r v t i
  have w := mg_r (ck v (qp v t i) (qe v t i - qp v t i))
  have ww : wd v t i = mg (ck v (qp v t i) (qe v t i - qp v t i)) := rfl
  unfold qm
  repeat' split
  all_goals omega
theorem qm_w {v : Nat → Int} {t i : Nat} : qm v t i ≤ 5 ↔ qs v t i = 1 ∧ ¬ wd v t i = 9 := by
  have qr := qs_r v t i
  have w := mg_r (ck v (qp v t i) (qe v t i - qp v t i))
  have ww : wd v t i = mg (ck v (qp v t i) (qe v t i - qp v t i)) := rfl
  unfold qm
  repeat' split
  all_goals omega
theorem qm_r {v : Nat → Int} {t i : Nat} : 0 ≤ qm v t i ∧ qm v t i ≤ 9 := by
  have w := mg_r (ck v (qp v t i) (qe v t i - qp v t i))
  have ww : wd v t i = mg (ck v (qp v t i) (qe v t i - qp v t i)) := rfl
  unfold qm
  repeat' split
  all_goals omega
def kz (r : Int × Nat × (Nat → Nat → Int)) (N : Nat → Int32) (K : Int32 → Int32 → Int32 → Int32 → Int32 → Int32 → (Nat → Int32) → (Nat → Int32) → Prop) : Prop := (r.1 = -1 → ∀ (at_ st so va : Int32) (items : Nat → Int32), r.2.1 ≤ 33 → rA items r.2.2 r.2.1 → K at_ st so va (-1) (zI r.2.1) N items) ∧ (¬ r.1 = -1 → 0 ≤ r.1 ∧ r.1 ≤ 200 → ∀ (at_ st so va mm : Int32) (items : Nat → Int32), K at_ st so va (zI r.1) mm N items)
section RM2
variable {T : Nat → Int32} {v : Nat → Int} {t : Nat}
theorem m_due1 (ht : t ≤ 200) (hT : ∀ i, i < t → T i = zI (v i)) (hv : ∀ i, i < t → -128 ≤ v i ∧ v i ≤ 127) {i : Nat} (hi : i ≤ t) (q0 : qs v t i ≠ 0) {at_ st so va : Int32} (hS : MS v t i at_ st so va) {k : Int32 → Int32 → Int32 → Int32 → Int32 → Int32 → Prop} (hk : ∀ a' s' o' v', MS v t (qe v t i) a' s' o' v' → k va a' s' o' v' (-1)) : pX12_due (zI t) at_ st so va (-1) T 1 k := by
  have he := qe_b v hi q0
  unfold pX12_due
  exact brT rfl (br1 (m_next ht hT hv he.2 (hS.1 q0) hk))
theorem m_due0 {at_ st so va : Int32} {k : Int32 → Int32 → Int32 → Int32 → Int32 → Int32 → Prop} (hk : k va at_ st so va st) : pX12_due (zI t) at_ st so va (-1) T 0 k := by
  unfold pX12_due
  exact brT rfl (br0 hk)
theorem m_dueF {at_ st so va X : Int32} {f : Int} (hf : 0 ≤ f ∧ f ≤ 200) {k : Int32 → Int32 → Int32 → Int32 → Int32 → Int32 → Prop} (hk : k va at_ st so va (zI f)) : pX12_due (zI t) at_ st so va (zI f) T X k := by
  unfold pX12_due
  exact brF (by ((try simp only [zI_lit, zI_neg, zI_add, zI_sub, zI_mul, zI_n, ne_eq]) <;> (first | rw [zI_lt (by omega) (by omega)] | rw [zI_le (by omega) (by omega)] | rw [zI_eq (by omega) (by omega)]); try omega)) hk
/-- behind a fault nothing more is read -/
theorem m_rF {K : Int32 → Int32 → Int32 → Int32 → Int32 → Int32 → (Nat → Int32) → (Nat → Int32) → Prop} {N : Nat → Int32} {G m : Nat} (hm : m ≤ 33) {f : Int} (hf : 0 ≤ f ∧ f ≤ 200) (hk : ∀ (at_ st so va mm : Int32) (items : Nat → Int32), K at_ st so va (zI f) mm N items) (X at_ st so va : Int32) (items : Nat → Int32) : pX12_readItem_94 (zI t) T (fun a s o v' f' mm it => pX12_read_19 (zI t) T K (G + 1) a s o v' f' mm N it) X at_ st so va (zI f) (zI m) items := by
  have go : ∀ Y : Int32, pX12_readItem_109 (zI t) T (fun a s o v' f' mm it => pX12_read_19 (zI t) T K (G + 1) a s o v' f' mm N it) X Y at_ st so va (zI f) (zI m) items := fun Y => by
    unfold pX12_readItem_109
    exact m_dueF hf ⟨by ((try simp only [zI_lit, zI_neg, zI_add, zI_sub, zI_mul, zI_n]); rw [zI_in (by omega)]; omega), brF (by ((try simp only [zI_lit, zI_neg, zI_add, zI_sub, zI_mul, zI_n, ne_eq]) <;> (first | rw [zI_lt (by omega) (by omega)] | rw [zI_le (by omega) (by omega)] | rw [zI_eq (by omega) (by omega)]); try omega)) (hk _ _ _ _ _ _)⟩
  unfold pX12_readItem_94
  by_cases c : so = 7
  · exact brT c (go 1)
  · exact brF c (go 0)
theorem m_itm (ht : t ≤ 200) (hT : ∀ i, i < t → T i = zI (v i)) (hv : ∀ i, i < t → -128 ≤ v i ∧ v i ≤ 127) {K : Int32 → Int32 → Int32 → Int32 → Int32 → Int32 → (Nat → Int32) → (Nat → Int32) → Prop} {N : Nat → Int32} {n G m w : Nat} (hw : w ≤ 5)
    (ih : ∀ (F i : Nat) (I : Nat → Nat → Int) (at_ st so va : Int32) (items : Nat → Int32), F ≤ n → t < i + F → i ≤ t → rA items I (m + 1) → 6 * (m + 1) ≤ i → MS v t i at_ st so va → kz (pf v t F 0 0 i (m + 1) I) N K → pX12_read_19 (zI t) T K (G + 1) at_ st so va (-1) (zI ((m + 1 : Nat) : Int)) N items) : ∀ (r F c i : Nat) (I : Nat → Nat → Int) (at_ st so va : Int32) (items : Nat → Int32), F ≤ n + 1 → t < i + F → i ≤ t → rA items I m → 6 * m + 3 + c ≤ i → 1 ≤ c → c + r = nn (w : Int) + 1 → I m 0 = (w : Int) → rH items I m c → MS v t i at_ st so va → kz (pf v t F (r + 1) c i m I) N K → pX12_readItem_56 (zI t) T (fun x1 a s o v' f mm it => pX12_readItem_94 (zI t) T (fun a s o v' f mm it => pX12_read_19 (zI t) T K (G + 1) a s o v' f mm N it) x1 a s o v' f mm it) (r + 1) (zI w) (zI (nn (w : Int))) (zI ((c : Int) - 1)) at_ st so va (-1) (zI m) items
  | 0, F, c, i, I, at_, st, so, va, items, hFn, hF, hi, hA, hm, hc, hr, hI, hH, hS, hk => by
    have nb := nn_b (w : Int)
    have hp := qp_b v hi
    have qr := qm_r (v := v) (t := t) (i := i)
    obtain ⟨F, rfl⟩ : ∃ F', F = F' + 1 := ⟨F - 1, by omega⟩
    rw [pf_1] at hk
    refine brT (by ((try simp only [zI_lit, zI_neg, zI_add, zI_sub, zI_mul, zI_n, ne_eq]) <;> (first | rw [zI_lt (by omega) (by omega)] | rw [zI_le (by omega) (by omega)] | rw [zI_eq (by omega) (by omega)]); try omega)) ?_
    unfold pX12_readItem_94
    rw [hS.2.2.1]
    have em : zI (m : Int) + 1 = zI ((m + 1 : Nat) : Int) := by ((try simp only [zI_lit, zI_neg, zI_add, zI_sub, zI_mul, zI_n]) <;> (first | rfl | (refine zI_eqI ?_; omega)))
    have i5 : ((5 : Int32) * zI (m : Int)).toNatClampNeg = 5 * m := by ((try simp only [zI_lit, zI_neg, zI_add, zI_sub, zI_mul, zI_n]); rw [zI_clamp (by omega)]; omega)
    by_cases q3 : qs v t i = 3
    · have q7 := qm_7.2 q3
      have he := qe_b v hi (by omega)
      rw [if_pos q3] at hk
      refine brT (by ((try simp only [zI_lit, zI_neg, zI_add, zI_sub, zI_mul, zI_n, ne_eq]) <;> (first | rw [zI_lt (by omega) (by omega)] | rw [zI_le (by omega) (by omega)] | rw [zI_eq (by omega) (by omega)]); try omega)) ?_
      unfold pX12_readItem_109
      have hS' : MS v t i at_ st (zI (qm v t i)) va := by rw [← hS.2.2.1]; exact hS
      refine m_due1 ht hT hv hi (by omega) hS' (fun a s o v' hS2 => ⟨by ((try simp only [zI_lit, zI_neg, zI_add, zI_sub, zI_mul, zI_n]); rw [zI_in (by omega)]; omega), ?_⟩)
      rw [em, i5]
      refine ih F (qe v t i) I a s o v' _ (by omega) (by omega) he.2 (fun k hk' => ?_) (by omega) hS2 hk
      by_cases z : k = m
      · rw [z]
        refine ⟨by rw [upd_s, hI], by rw [hI]; omega, fun q a b => ?_⟩
        rw [upd_n _ _ (by omega)]
        rw [hI] at b
        exact hH q a (by omega)
      · exact rA_upd hA _ (by omega) _ k (by omega)
    · have q7 : ¬ qm v t i = 7 := fun z => q3 (qm_7.1 z)
      rw [if_neg q3] at hk
      refine brF (by ((try simp only [zI_lit, zI_neg, zI_add, zI_sub, zI_mul, zI_n, ne_eq]) <;> (first | rw [zI_lt (by omega) (by omega)] | rw [zI_le (by omega) (by omega)] | rw [zI_eq (by omega) (by omega)]); try omega)) ?_
      unfold pX12_readItem_109
      rw [hS.2.1]
      refine m_due0 ⟨by ((try simp only [zI_lit, zI_neg, zI_add, zI_sub, zI_mul, zI_n]); rw [zI_in (by omega)]; omega), brF (by ((try simp only [zI_lit, zI_neg, zI_add, zI_sub, zI_mul, zI_n, ne_eq]) <;> (first | rw [zI_lt (by omega) (by omega)] | rw [zI_le (by omega) (by omega)] | rw [zI_eq (by omega) (by omega)]); try omega)) (hk.2 (by show ¬ (qp v t i : Int) = -1; omega) (by show 0 ≤ (qp v t i : Int) ∧ (qp v t i : Int) ≤ 200; omega) _ _ _ _ _ _)⟩
  | r + 1, F, c, i, I, at_, st, so, va, items, hFn, hF, hi, hA, hm, hc, hr, hI, hH, hS, hk => by
    have nb := nn_b (w : Int)
    have hp := qp_b v hi
    have qr := qm_r (v := v) (t := t) (i := i)
    obtain ⟨F, rfl⟩ : ∃ F', F = F' + 1 := ⟨F - 1, by omega⟩
    rw [pf_2] at hk
    refine brF (by ((try simp only [zI_lit, zI_neg, zI_add, zI_sub, zI_mul, zI_n, ne_eq]) <;> (first | rw [zI_lt (by omega) (by omega)] | rw [zI_le (by omega) (by omega)] | rw [zI_eq (by omega) (by omega)]); try omega)) (brT rfl ?_)
    unfold pX12_number
    have ic : ((5 : Int32) * zI (m : Int) + 1 + zI ((c : Int) - 1)).toNatClampNeg = 5 * m + c := by ((try simp only [zI_lit, zI_neg, zI_add, zI_sub, zI_mul, zI_n]); rw [zI_clamp (by omega)]; omega)
    have e3 : zI ((c : Int) - 1) + 1 = zI (((c + 1 : Nat) : Int) - 1) := by ((try simp only [zI_lit, zI_neg, zI_add, zI_sub, zI_mul, zI_n]) <;> (first | rfl | (refine zI_eqI ?_; omega)))
    by_cases q2 : qs v t i = 2
    · have q6 := qm_6.2 q2
      have he := qe_b v hi (by omega)
      have qb := qn_b hi q2
      rw [if_pos q2] at hk
      refine brT (by rw [hS.2.2.1, q6]; rfl) (m_due1 ht hT hv hi (by omega) hS (fun a s o v' hS2 => ⟨by ((try simp only [zI_lit, zI_neg, zI_add, zI_sub, zI_mul, zI_n]); rw [zI_in (by omega)]; omega), ?_⟩))
      rw [ic, e3, hS.2.2.2 q2]
      have e0 : st2 I m c (qn v t i) m 0 = I m 0 := st2_n (by omega)
      refine m_itm ht hT hv hw ih r F (c + 1) (qe v t i) _ a s o v' _ (by omega) (by omega) he.2 (rA_st2 (rA_upd hA _ (by omega) _)) (by omega) (by omega) (by omega) (by rw [e0]; exact hI) (fun q a b => ?_) hS2 hk
      by_cases z : q = c
      · rw [z, st2_s, upd_s]
        exact ⟨rfl, qb⟩
      · rw [st2_n (by omega), upd_n _ _ (by omega)]
        exact hH q a (by omega)
    · have q6 : ¬ qm v t i = 6 := fun z => q2 (qm_6.1 z)
      rw [if_neg q2] at hk
      have kF := hk.2 (by show ¬ (qp v t i : Int) = -1; omega) (by show 0 ≤ (qp v t i : Int) ∧ (qp v t i : Int) ≤ 200; omega)
      refine brF (by rw [hS.2.2.1]; ((try simp only [zI_lit, zI_neg, zI_add, zI_sub, zI_mul, zI_n, ne_eq]) <;> (first | rw [zI_lt (by omega) (by omega)] | rw [zI_le (by omega) (by omega)] | rw [zI_eq (by omega) (by omega)]); try omega)) (m_due0 ⟨by ((try simp only [zI_lit, zI_neg, zI_add, zI_sub, zI_mul, zI_n]); rw [zI_in (by omega)]; omega), ?_⟩)
      rw [hS.2.1, e3]
      by_cases z : nn (w : Int) ≤ c
      · exact brT (by ((try simp only [zI_lit, zI_neg, zI_add, zI_sub, zI_mul, zI_n, ne_eq]) <;> (first | rw [zI_lt (by omega) (by omega)] | rw [zI_le (by omega) (by omega)] | rw [zI_eq (by omega) (by omega)]); try omega)) (m_rF (m := m) (by omega) (f := (qp v t i : Int)) (by omega) kF _ _ _ _ _ _)
      · exact brF (by ((try simp only [zI_lit, zI_neg, zI_add, zI_sub, zI_mul, zI_n, ne_eq]) <;> (first | rw [zI_lt (by omega) (by omega)] | rw [zI_le (by omega) (by omega)] | rw [zI_eq (by omega) (by omega)]); try omega)) (brF (by ((try simp only [zI_lit, zI_neg, zI_add, zI_sub, zI_mul, zI_n, ne_eq]) <;> (first | rw [zI_lt (by omega) (by omega)] | rw [zI_le (by omega) (by omega)] | rw [zI_eq (by omega) (by omega)]); try omega)) (m_rF (m := m) (by omega) (f := (qp v t i : Int)) (by omega) kF _ _ _ _ _ _))
theorem m_top (ht : t ≤ 200) (hT : ∀ i, i < t → T i = zI (v i)) (hv : ∀ i, i < t → -128 ≤ v i ∧ v i ≤ 127) {K : Int32 → Int32 → Int32 → Int32 → Int32 → Int32 → (Nat → Int32) → (Nat → Int32) → Prop} {N : Nat → Int32} : ∀ (n F i m : Nat) (I : Nat → Nat → Int) (at_ st so va : Int32) (items : Nat → Int32), F ≤ n → t < i + F → i ≤ t → rA items I m → 6 * m ≤ i → MS v t i at_ st so va → kz (pf v t F 0 0 i m I) N K → pX12_read_19 (zI t) T K (n + 1) at_ st so va (-1) (zI m) N items
  | 0, F, i, m, I, at_, st, so, va, items, hFn, hF, hi, hA, hm, hS, hk => absurd hF (by omega)
  | n + 1, F, i, m, I, at_, st, so, va, items, hFn, hF, hi, hA, hm, hS, hk => by
    have hp := qp_b v hi
    have qr := qm_r (v := v) (t := t) (i := i)
    obtain ⟨F, rfl⟩ : ∃ F', F = F' + 1 := ⟨F - 1, by omega⟩
    rw [pf_0] at hk
    refine brT rfl ?_
    rw [hS.2.2.1]
    by_cases q0 : qs v t i = 0
    · have q8 := qm_8.2 q0
      rw [if_pos q0] at hk
      exact brT (by rw [q8]; rfl) (hk.1 rfl _ _ _ _ items (by show m ≤ 33; omega) hA)
    · have q8 : ¬ qm v t i = 8 := fun z => q0 (qm_8.1 z)
      have he := qe_b v hi q0
      rw [if_neg q0] at hk
      have hS' : MS v t i at_ st (zI (qm v t i)) va := by rw [← hS.2.2.1]; exact hS
      refine brF (by ((try simp only [zI_lit, zI_neg, zI_add, zI_sub, zI_mul, zI_n, ne_eq]) <;> (first | rw [zI_lt (by omega) (by omega)] | rw [zI_le (by omega) (by omega)] | rw [zI_eq (by omega) (by omega)]); try omega)) ?_
      unfold pX12_readItem
      by_cases q1 : qs v t i = 1 ∧ ¬ wd v t i = 9
      · have q5 := qm_w.2 q1
        have wl4 := wd_len hi q1.1 q1.2
        have ew : qm v t i = wd v t i := by unfold qm; rw [if_neg q0, if_pos q1.1]
        obtain ⟨w, hw⟩ : ∃ w : Nat, wd v t i = (w : Int) := ⟨(wd v t i).toNat, by omega⟩
        rw [if_pos q1, hw] at hk
        rw [ew, hw] at q5 qr hS' ⊢
        have nb := nn_b (w : Int)
        refine brF (by ((try simp only [zI_lit, zI_neg, zI_add, zI_sub, zI_mul, zI_n, ne_eq]) <;> (first | rw [zI_lt (by omega) (by omega)] | rw [zI_le (by omega) (by omega)] | rw [zI_eq (by omega) (by omega)]); try omega)) ?_
        unfold pX12_readItem_16
        refine m_due1 ht hT hv hi q0 hS' (fun a s o v' hS2 => ?_)
        have go : ∀ Y : Int32, Y = zI (nn (w : Int)) → pX12_readItem_53 (zI t) T (fun a s o v' f mm it => pX12_read_19 (zI t) T K (n + 1) a s o v' f mm N it) (zI w) Y a s o v' (-1) (zI m) items := fun Y eY => by
          unfold pX12_readItem_53
          rw [eY]
          refine ⟨nn (w : Int) + 1, m_itm ht hT hv (n := n) (by omega) (fun F' i' I' a' s' o' v'' it' h1 h2 h3 h4 h5 h6 h7 => m_top ht hT hv n F' i' (m + 1) I' a' s' o' v'' it' h1 h2 h3 h4 h5 h6 h7) (nn (w : Int)) F 1 (qe v t i) _ a s o v' items (by omega) (by omega) he.2 (rA_st2 hA) (by omega) (by omega) (by omega) (st2_s _ _ _ _) (fun q a b => absurd b (by omega)) hS2 hk⟩
        have hz : (-2147483648 ≤ (w : Int) ∧ (w : Int) < 2147483648) := by omega
        by_cases y1 : (w : Int) = 1
        · exact brT (by rw [y1]; rfl) (go _ (by unfold nn; rw [if_pos y1]; rfl))
        · refine brF (by ((try simp only [zI_lit, zI_neg, zI_add, zI_sub, zI_mul, zI_n, ne_eq]) <;> (first | rw [zI_lt (by omega) (by omega)] | rw [zI_le (by omega) (by omega)] | rw [zI_eq (by omega) (by omega)]); try omega)) ?_
          by_cases y3 : (w : Int) = 3
          · exact brT (by rw [y3]; rfl) (go _ (by unfold nn; rw [if_neg y1, if_pos y3]; rfl))
          · refine brF (by ((try simp only [zI_lit, zI_neg, zI_add, zI_sub, zI_mul, zI_n, ne_eq]) <;> (first | rw [zI_lt (by omega) (by omega)] | rw [zI_le (by omega) (by omega)] | rw [zI_eq (by omega) (by omega)]); try omega)) ?_
            unfold pX12_readItem_48
            by_cases y2 : (w : Int) = 2
            · exact brT (by rw [y2]; rfl) (go _ (by unfold nn; rw [if_neg y1, if_neg y3, if_pos y2]; rfl))
            · refine brF (by ((try simp only [zI_lit, zI_neg, zI_add, zI_sub, zI_mul, zI_n, ne_eq]) <;> (first | rw [zI_lt (by omega) (by omega)] | rw [zI_le (by omega) (by omega)] | rw [zI_eq (by omega) (by omega)]); try omega)) ?_
              by_cases y4 : (w : Int) = 4
              · exact brT (by rw [y4]; rfl) (go _ (by unfold nn; rw [if_neg y1, if_neg y3, if_neg y2, if_pos y4]; rfl))
              · exact brF (by ((try simp only [zI_lit, zI_neg, zI_add, zI_sub, zI_mul, zI_n, ne_eq]) <;> (first | rw [zI_lt (by omega) (by omega)] | rw [zI_le (by omega) (by omega)] | rw [zI_eq (by omega) (by omega)]); try omega)) (go _ (by unfold nn; rw [if_neg y1, if_neg y3, if_neg y2, if_neg y4]; rfl))
      · have q5 : ¬ qm v t i ≤ 5 := fun z => q1 (qm_w.1 z)
        rw [if_neg q1] at hk
        have kF := hk.2 (by show ¬ (qp v t i : Int) = -1; omega) (by show 0 ≤ (qp v t i : Int) ∧ (qp v t i : Int) ≤ 200; omega)
        refine brT (by ((try simp only [zI_lit, zI_neg, zI_add, zI_sub, zI_mul, zI_n, ne_eq]) <;> (first | rw [zI_lt (by omega) (by omega)] | rw [zI_le (by omega) (by omega)] | rw [zI_eq (by omega) (by omega)]); try omega)) ?_
        unfold pX12_readItem_16
        rw [hS.2.1]
        refine m_due0 ?_
        have go : ∀ (Y : Int32) (y : Nat), Y = zI y → 1 ≤ y → y ≤ 4 → pX12_readItem_53 (zI t) T (fun a s o v' f mm it => pX12_read_19 (zI t) T K (n + 1) a s o v' f mm N it) (zI (qm v t i)) Y at_ (zI (qp v t i)) (zI (qm v t i)) va (zI (qp v t i)) (zI m) items := fun Y y eY h1 h2 => by
          unfold pX12_readItem_53
          rw [eY]
          exact ⟨1, brF (by ((try simp only [zI_lit, zI_neg, zI_add, zI_sub, zI_mul, zI_n, ne_eq]) <;> (first | rw [zI_lt (by omega) (by omega)] | rw [zI_le (by omega) (by omega)] | rw [zI_eq (by omega) (by omega)]); try omega)) (brF (by ((try simp only [zI_lit, zI_neg, zI_add, zI_sub, zI_mul, zI_n, ne_eq]) <;> (first | rw [zI_lt (by omega) (by omega)] | rw [zI_le (by omega) (by omega)] | rw [zI_eq (by omega) (by omega)]); try omega)) (m_rF (m := m) (by omega) (f := (qp v t i : Int)) (by omega) kF _ _ _ _ _ _))⟩
        refine brF (by ((try simp only [zI_lit, zI_neg, zI_add, zI_sub, zI_mul, zI_n, ne_eq]) <;> (first | rw [zI_lt (by omega) (by omega)] | rw [zI_le (by omega) (by omega)] | rw [zI_eq (by omega) (by omega)]); try omega)) (brF (by ((try simp only [zI_lit, zI_neg, zI_add, zI_sub, zI_mul, zI_n, ne_eq]) <;> (first | rw [zI_lt (by omega) (by omega)] | rw [zI_le (by omega) (by omega)] | rw [zI_eq (by omega) (by omega)]); try omega)) (brF (by ((try simp only [zI_lit, zI_neg, zI_add, zI_sub, zI_mul, zI_n, ne_eq]) <;> (first | rw [zI_lt (by omega) (by omega)] | rw [zI_le (by omega) (by omega)] | rw [zI_eq (by omega) (by omega)]); try omega)) (brF (by ((try simp only [zI_lit, zI_neg, zI_add, zI_sub, zI_mul, zI_n, ne_eq]) <;> (first | rw [zI_lt (by omega) (by omega)] | rw [zI_le (by omega) (by omega)] | rw [zI_eq (by omega) (by omega)]); try omega)) (go 1 1 rfl (by omega) (by omega)))))
end RM2
