/-! telling an item, and reading -/
def tI (R : Nat → Int) (a : AR) : Int × AR := if R 0 = 0 then tW (R 1) a else if R 0 = 1 then tP (R 1) (R 2) (R 3) (R 4) a else if R 0 = 2 then tB (R 1) (R 2) a else if R 0 = 3 then tC (R 1) (R 2) (R 3) a else if R 0 = 4 then tL (R 1) (R 2) a else tO (R 1) a
theorem tI_ok {a : AR} (R : Nat → Int) (h : aOk a) : aOk (tI R a).2 ∧ cOk (tI R a).1 := by
  unfold tI
  by_cases c0' : R 0 = 0
  · rw [if_pos c0']; exact tW_ok _ h
  · rw [if_neg c0']
    by_cases c1' : R 0 = 1
    · rw [if_pos c1']; exact tP_ok _ _ _ _ h
    · rw [if_neg c1']
      by_cases c2' : R 0 = 2
      · rw [if_pos c2']; exact tB_ok _ _ h
      · rw [if_neg c2']
        by_cases c3' : R 0 = 3
        · rw [if_pos c3']; exact tC_ok _ _ _ h
        · rw [if_neg c3']
          by_cases c4' : R 0 = 4
          · rw [if_pos c4']; exact tL_ok _ _ h
          · rw [if_neg c4']; exact tO_ok _ h
section TI
variable {a : AR} {hi lw pz : Int32} {pc : Nat → Int32} {bz : Int32} {bc : Nat → Int32} {cz : Int32} {cc : Nat → Int32} {lz : Int32} {lc : Nat → Int32} {N cells : Nat → Int32} {I : Nat → Nat → Int} {k : Nat}
theorem x_tI (hok : aOk a) (hx : aX a (hi, lw, pz, pc, bz, bc, cz, cc, lz, lc)) (hk : k < 33) (hG : rG cells I k) {K : Int32 → Int32 → Int32 → Int32 → (Nat → Int32) → Int32 → (Nat → Int32) → Int32 → (Nat → Int32) → Int32 → (Nat → Int32) → Prop} (hK : ∀ w0 w1 w2 w3 w4 w5 w6 w7 w8 w9, aX (tI (I k) a).2 (w0, w1, w2, w3, w4, w5, w6, w7, w8, w9) → K (zI (tI (I k) a).1) w0 w1 w2 w3 w4 w5 w6 w7 w8 w9) : pX11_tellItem hi lw pz pc bz bc cz cc lz lc cells (zI k) K := by
  obtain ⟨g0, gw_, gn⟩ := hG
  unfold pX11_tellItem pX6_numberOf pX6_sortOf
  refine x_a5 (c := 1) (by decide) hk (by omega) (x_a5 (c := 2) (by decide) hk (by omega) (x_a5 (c := 3) (by decide) hk (by omega) (x_a5 (c := 0) (by decide) hk (by omega) ?_)))
  rw [show 5 * k + 0 = 5 * k from rfl, g0]
  unfold tI at hK
  have n1 := gn 1 (by omega) (nn_b _).1
  refine ⟨fun e => ?_, fun e => ?_, fun e => ?_, fun e => ?_, fun e => ?_, fun e0 e1 e2 e3 e4 => ?_⟩
  · rw [z0, zI_eq (by omega) (by omega)] at e
    rw [if_pos e] at hK
    rw [n1.1]
    exact x_tW hok hx (by omega) (fun w1 hx' => hK _ _ _ _ _ _ _ _ _ _ hx')
  · rw [z1, zI_eq (by omega) (by omega)] at e
    rw [if_neg (by omega), if_pos e] at hK
    have en : nn (I k 0) = 4 := by unfold nn; rw [if_pos e]
    have n2 := gn 2 (by omega) (by omega)
    have n3 := gn 3 (by omega) (by omega)
    have n4 := gn 4 (by omega) (by omega)
    refine x_a5 (c := 4) (by decide) hk (by omega) ?_
    rw [n1.1, n2.1, n3.1, n4.1]
    exact x_tP hok hx (by omega) (by omega) (by omega) (by omega) (fun w1 w2 hx' => hK _ _ _ _ _ _ _ _ _ _ hx')
  · rw [z2, zI_eq (by omega) (by omega)] at e
    rw [if_neg (by omega), if_neg (by omega), if_pos e] at hK
    have en : nn (I k 0) = 2 := by unfold nn; rw [if_neg (by omega), if_neg (by omega), if_pos e]
    have n2 := gn 2 (by omega) (by omega)
    rw [n1.1, n2.1]
    exact x_tB hok hx (by omega) (by omega) (fun w1 w2 hx' => hK _ _ _ _ _ _ _ _ _ _ hx')
  · rw [z3, zI_eq (by omega) (by omega)] at e
    rw [if_neg (by omega), if_neg (by omega), if_neg (by omega), if_pos e] at hK
    have en : nn (I k 0) = 3 := by unfold nn; rw [if_neg (by omega), if_pos e]
    have n2 := gn 2 (by omega) (by omega)
    have n3 := gn 3 (by omega) (by omega)
    rw [n1.1, n2.1, n3.1]
    exact x_tC hok hx (by omega) (by omega) (by omega) (fun w1 w2 hx' => hK _ _ _ _ _ _ _ _ _ _ hx')
  · rw [z4, zI_eq (by omega) (by omega)] at e
    rw [if_neg (by omega), if_neg (by omega), if_neg (by omega), if_neg (by omega), if_pos e] at hK
    have en : nn (I k 0) = 2 := by unfold nn; rw [if_neg (by omega), if_neg (by omega), if_neg (by omega), if_pos e]
    have n2 := gn 2 (by omega) (by omega)
    rw [n1.1, n2.1]
    exact x_tL hok hx (by omega) (by omega) (fun w1 w2 hx' => hK _ _ _ _ _ _ _ _ _ _ hx')
  · rw [z0, zI_eq (by omega) (by omega)] at e0
    rw [z1, zI_eq (by omega) (by omega)] at e1
    rw [z2, zI_eq (by omega) (by omega)] at e2
    rw [z3, zI_eq (by omega) (by omega)] at e3
    rw [z4, zI_eq (by omega) (by omega)] at e4
    rw [if_neg e0, if_neg e1, if_neg e2, if_neg e3, if_neg e4] at hK
    rw [n1.1]
    exact x_tO hok hx (by omega) (fun w1 hx' => hK _ _ _ _ _ _ _ _ _ _ hx')
theorem m_tI (hok : aOk a) (hm : aM a N 0) (hk : k < 33) (hG : rG cells I k) {K : Int32 → (Nat → Int32) → Prop} (hK : ∀ N', aM (tI (I k) a).2 N' 0 → (∀ i, 113 ≤ i → N' i = N i) → K (zI (tI (I k) a).1) N') : pX12_tellItem N cells (zI k) K := by
  obtain ⟨g0, gw_, gn⟩ := hG
  have i0 : ((5 : Int32) * zI (k : Int)).toNatClampNeg = 5 * k := by ((try simp only [zI_lit, zI_neg, zI_add, zI_sub, zI_mul, zI_n]); rw [zI_clamp (by omega)]; omega)
  have i1 : ((5 : Int32) * zI (k : Int) + 1).toNatClampNeg = 5 * k + 1 := by ((try simp only [zI_lit, zI_neg, zI_add, zI_sub, zI_mul, zI_n]); rw [zI_clamp (by omega)]; omega)
  have i2 : ((5 : Int32) * zI (k : Int) + 2).toNatClampNeg = 5 * k + 2 := by ((try simp only [zI_lit, zI_neg, zI_add, zI_sub, zI_mul, zI_n]); rw [zI_clamp (by omega)]; omega)
  have i3 : ((5 : Int32) * zI (k : Int) + 3).toNatClampNeg = 5 * k + 3 := by ((try simp only [zI_lit, zI_neg, zI_add, zI_sub, zI_mul, zI_n]); rw [zI_clamp (by omega)]; omega)
  have i4 : ((5 : Int32) * zI (k : Int) + 4).toNatClampNeg = 5 * k + 4 := by ((try simp only [zI_lit, zI_neg, zI_add, zI_sub, zI_mul, zI_n]); rw [zI_clamp (by omega)]; omega)
  unfold pX12_tellItem
  refine ⟨by ((try simp only [zI_lit, zI_neg, zI_add, zI_sub, zI_mul, zI_n]); rw [zI_in (by omega)]; omega), by ((try simp only [zI_lit, zI_neg, zI_add, zI_sub, zI_mul, zI_n]); rw [zI_in (by omega)]; omega), by ((try simp only [zI_lit, zI_neg, zI_add, zI_sub, zI_mul, zI_n]); rw [zI_in (by omega)]; omega), by ((try simp only [zI_lit, zI_neg, zI_add, zI_sub, zI_mul, zI_n]); rw [zI_in (by omega)]; omega), by ((try simp only [zI_lit, zI_neg, zI_add, zI_sub, zI_mul, zI_n]); rw [zI_in (by omega)]; omega), ?_⟩
  rw [i0, i1, i2, i3, i4, g0]
  unfold tI at hK
  have n1 := gn 1 (by omega) (nn_b _).1
  refine ⟨fun e => ?_, fun e => ?_, fun e => ?_, fun e => ?_, fun e => ?_, fun e0 e1 e2 e3 e4 => ?_⟩
  · rw [z0, zI_eq (by omega) (by omega)] at e
    rw [if_pos e] at hK
    rw [n1.1]
    exact m_tW hok hm (by omega) hK
  · rw [z1, zI_eq (by omega) (by omega)] at e
    rw [if_neg (by omega), if_pos e] at hK
    have en : nn (I k 0) = 4 := by unfold nn; rw [if_pos e]
    have n2 := gn 2 (by omega) (by omega)
    have n3 := gn 3 (by omega) (by omega)
    have n4 := gn 4 (by omega) (by omega)
    rw [n1.1, n2.1, n3.1, n4.1]
    exact m_tP hok hm (by omega) (by omega) (by omega) (by omega) hK
  · rw [z2, zI_eq (by omega) (by omega)] at e
    rw [if_neg (by omega), if_neg (by omega), if_pos e] at hK
    have en : nn (I k 0) = 2 := by unfold nn; rw [if_neg (by omega), if_neg (by omega), if_pos e]
    have n2 := gn 2 (by omega) (by omega)
    rw [n1.1, n2.1]
    exact m_tB hok hm (by omega) (by omega) hK
  · rw [z3, zI_eq (by omega) (by omega)] at e
    rw [if_neg (by omega), if_neg (by omega), if_neg (by omega), if_pos e] at hK
    have en : nn (I k 0) = 3 := by unfold nn; rw [if_neg (by omega), if_pos e]
    have n2 := gn 2 (by omega) (by omega)
    have n3 := gn 3 (by omega) (by omega)
    rw [n1.1, n2.1, n3.1]
    exact m_tC hok hm (by omega) (by omega) (by omega) hK
  · rw [z4, zI_eq (by omega) (by omega)] at e
    rw [if_neg (by omega), if_neg (by omega), if_neg (by omega), if_neg (by omega), if_pos e] at hK
    have en : nn (I k 0) = 2 := by unfold nn; rw [if_neg (by omega), if_neg (by omega), if_neg (by omega), if_pos e]
    have n2 := gn 2 (by omega) (by omega)
    rw [n1.1, n2.1]
    exact m_tL hok hm (by omega) (by omega) hK
  · rw [z0, zI_eq (by omega) (by omega)] at e0
    rw [z1, zI_eq (by omega) (by omega)] at e1
    rw [z2, zI_eq (by omega) (by omega)] at e2
    rw [z3, zI_eq (by omega) (by omega)] at e3
    rw [z4, zI_eq (by omega) (by omega)] at e4
    rw [if_neg e0, if_neg e1, if_neg e2, if_neg e3, if_neg e4] at hK
    rw [n1.1]
    exact m_tO hok hm (by omega) hK
end TI
/-- all items, one behind the other: the first that is refused, or -1, and the road -/
def tz (I : Nat → Nat → Int) : Nat → Nat → AR → Int × AR
  | 0, _, a => (-1, a)
  | n + 1, k, a => if (tI (I k) a).1 < 0 then ((k : Int), a) else tz I n (k + 1) (tI (I k) a).2
theorem tz_s (I : Nat → Nat → Int) (n k : Nat) (a : AR) : tz I (n + 1) k a = if (tI (I k) a).1 < 0 then ((k : Int), a) else tz I n (k + 1) (tI (I k) a).2 := rfl
theorem tz_ok (I : Nat → Nat → Int) : ∀ (n k : Nat) (a : AR), aOk a → aOk (tz I n k a).2
  | 0, _, _, h => h
  | n + 1, k, a, h => by
    rw [tz_s]
    split
    · exact h
    · exact tz_ok I n (k + 1) _ (tI_ok _ h).1
theorem x_rd35 {cells : Nat → Int32} {I : Nat → Nat → Int} {M : Nat} (hM : M ≤ 33) (hA : rA cells I M) {k kx : Int32 → Int32 → Int32 → Int32 → (Nat → Int32) → Int32 → (Nat → Int32) → Int32 → (Nat → Int32) → Int32 → (Nat → Int32) → Int32 → Int32 → Int32 → (Nat → Int32) → Int32 → (Nat → Int32) → Int32 → (Nat → Int32) → Int32 → (Nat → Int32) → Int32 → Int32 → Int32 → (Nat → Int32) → Prop} {r0 r1 r2 : Int32} {r3 : Nat → Int32} {r4 : Int32} {r5 : Nat → Int32} {r6_ : Int32} {r7 : Nat → Int32} {r8 : Int32} {r9 : Nat → Int32} {pl nx sz : Int32} : ∀ (n i : Nat) (a : AR) (w0 w1 w2 : Int32) (w3 : Nat → Int32) (w4 : Int32) (w5 : Nat → Int32) (w6 : Int32) (w7 : Nat → Int32) (w8 : Int32) (w9 : Nat → Int32), i + n = M → aOk a → aX a (w0, w1, w2, w3, w4, w5, w6, w7, w8, w9) → ((tz I n i a).1 = -1 → ∀ w0 w1 w2 w3 w4 w5 w6 w7 w8 w9, aX (tz I n i a).2 (w0, w1, w2, w3, w4, w5, w6, w7, w8, w9) → kx (zI M) r0 r1 r2 r3 r4 r5 r6_ r7 r8 r9 w0 w1 w2 w3 w4 w5 w6 w7 w8 w9 pl nx sz cells) → (¬ (tz I n i a).1 = -1 → ∀ w0 w1 w2 w3 w4 w5 w6 w7 w8 w9, k (-1000 - zI (tz I n i a).1) r0 r1 r2 r3 r4 r5 r6_ r7 r8 r9 w0 w1 w2 w3 w4 w5 w6 w7 w8 w9 pl nx sz cells) → pX11_read_35 k kx (n + 1) (zI M) (zI i) r0 r1 r2 r3 r4 r5 r6_ r7 r8 r9 w0 w1 w2 w3 w4 w5 w6 w7 w8 w9 pl nx sz cells
  | 0, i, a, w0, w1, w2, w3, w4, w5, w6, w7, w8, w9, hi, hok, hx, h1, h2 => brT (by ((try simp only [zI_lit, zI_neg, zI_add, zI_sub, zI_mul, zI_n, ne_eq]) <;> (first | rw [zI_lt (by omega) (by omega)] | rw [zI_le (by omega) (by omega)] | rw [zI_eq (by omega) (by omega)]); try omega)) (h1 rfl _ _ _ _ _ _ _ _ _ _ hx)
  | n + 1, i, a, w0, w1, w2, w3, w4, w5, w6, w7, w8, w9, hi, hok, hx, h1, h2 => by
    have e1 : zI (i : Int) + 1 = zI ((i + 1 : Nat) : Int) := by ((try simp only [zI_lit, zI_neg, zI_add, zI_sub, zI_mul, zI_n]) <;> (first | rfl | (refine zI_eqI ?_; omega)))
    have t := tI_ok (I i) hok
    have tc := t.2
    unfold cOk at tc
    rw [tz_s] at h1 h2
    refine brF (by ((try simp only [zI_lit, zI_neg, zI_add, zI_sub, zI_mul, zI_n, ne_eq]) <;> (first | rw [zI_lt (by omega) (by omega)] | rw [zI_le (by omega) (by omega)] | rw [zI_eq (by omega) (by omega)]); try omega)) (x_tI hok hx (by omega) (hA i (by omega)) (fun w0 w1 w2 w3 w4 w5 w6 w7 w8 w9 hx' => ?_))
    by_cases g : (tI (I i) a).1 < 0
    · rw [if_pos g] at h2
      exact brF (by ((try simp only [zI_lit, zI_neg, zI_add, zI_sub, zI_mul, zI_n, ne_eq]) <;> (first | rw [zI_lt (by omega) (by omega)] | rw [zI_le (by omega) (by omega)] | rw [zI_eq (by omega) (by omega)]); try omega)) (h2 (by show ¬ (i : Int) = -1; omega) _ _ _ _ _ _ _ _ _ _)
    · rw [if_neg g] at h1 h2
      refine brT (by ((try simp only [zI_lit, zI_neg, zI_add, zI_sub, zI_mul, zI_n, ne_eq]) <;> (first | rw [zI_lt (by omega) (by omega)] | rw [zI_le (by omega) (by omega)] | rw [zI_eq (by omega) (by omega)]); try omega)) ?_
      rw [e1]
      exact x_rd35 hM hA n (i + 1) _ _ _ _ _ _ _ _ _ _ _ (by omega) t.1 hx' h1 h2
theorem m_rd73 {items : Nat → Int32} {I : Nat → Nat → Int} {M : Nat} (hM : M ≤ 33) (hA : rA items I M) {N0 : Nat → Int32} {k : Int32 → Int32 → Int32 → Int32 → Int32 → Int32 → Int32 → (Nat → Int32) → (Nat → Int32) → Prop} {kx : Int32 → Int32 → Int32 → Int32 → Int32 → Int32 → (Nat → Int32) → (Nat → Int32) → Prop} {at_ st so va f : Int32} : ∀ (n i : Nat) (a : AR) (N : Nat → Int32), i + n = M → aOk a → aM a N 0 → (∀ q, 113 ≤ q → N q = N0 q) → ((tz I n i a).1 = -1 → ∀ N', aM (tz I n i a).2 N' 0 → (∀ q, 113 ≤ q → N' q = N0 q) → kx at_ st so va f (zI M) N' items) → (¬ (tz I n i a).1 = -1 → ∀ N', (∀ q, q < 113 → N' q = N0 (339 + q)) → (∀ q, 113 ≤ q → N' q = N0 q) → k (-1000 - zI (tz I n i a).1) at_ st so va f (zI M) N' items) → pX12_read_73 k kx (n + 1) (zI i) at_ st so va f (zI M) N items
  | 0, i, a, N, hi, hok, hm, hN, h1, h2 => brT (by ((try simp only [zI_lit, zI_neg, zI_add, zI_sub, zI_mul, zI_n, ne_eq]) <;> (first | rw [zI_lt (by omega) (by omega)] | rw [zI_le (by omega) (by omega)] | rw [zI_eq (by omega) (by omega)]); try omega)) (h1 rfl _ hm hN)
  | n + 1, i, a, N, hi, hok, hm, hN, h1, h2 => by
    have e1 : zI (i : Int) + 1 = zI ((i + 1 : Nat) : Int) := by ((try simp only [zI_lit, zI_neg, zI_add, zI_sub, zI_mul, zI_n]) <;> (first | rfl | (refine zI_eqI ?_; omega)))
    have t := tI_ok (I i) hok
    have tc := t.2
    unfold cOk at tc
    rw [tz_s] at h1 h2
    refine brF (by ((try simp only [zI_lit, zI_neg, zI_add, zI_sub, zI_mul, zI_n, ne_eq]) <;> (first | rw [zI_lt (by omega) (by omega)] | rw [zI_le (by omega) (by omega)] | rw [zI_eq (by omega) (by omega)]); try omega)) (m_tI hok hm (by omega) (hA i (by omega)) (fun N1 hm1 hu => ?_))
    by_cases g : (tI (I i) a).1 < 0
    · rw [if_pos g] at h2
      refine brF (by ((try simp only [zI_lit, zI_neg, zI_add, zI_sub, zI_mul, zI_n, ne_eq]) <;> (first | rw [zI_lt (by omega) (by omega)] | rw [zI_le (by omega) (by omega)] | rw [zI_eq (by omega) (by omega)]); try omega)) (m_cp (f := 339) (t := 0) rfl rfl (by omega) (by omega) (by omega) (fun N2 c1 c2 => ?_))
      refine h2 (by show ¬ (i : Int) = -1; omega) N2 (fun q hq => ?_) (fun q hq => ?_)
      · have := c1 q hq
        rw [Nat.zero_add] at this
        rw [this, hu _ (by omega), hN _ (by omega)]
      · rw [c2 q (by omega), hu q hq, hN q hq]
    · rw [if_neg g] at h1 h2
      refine brT (by ((try simp only [zI_lit, zI_neg, zI_add, zI_sub, zI_mul, zI_n, ne_eq]) <;> (first | rw [zI_lt (by omega) (by omega)] | rw [zI_le (by omega) (by omega)] | rw [zI_eq (by omega) (by omega)]); try omega)) ?_
      rw [e1]
      exact m_rd73 hM hA n (i + 1) _ N1 (by omega) t.1 hm1 (fun q hq => by rw [hu q hq, hN q hq]) h1 h2
def a0 : AR := (10, 0, 0, 0, 0, 0, fun _ _ => 0, fun _ _ => 0, fun _ _ => 0, fun _ _ => 0)
theorem a0_ok : aOk a0 := by
  refine ⟨?_, ?_, ⟨?_, ?_, ?_⟩, ⟨?_, ?_⟩, ⟨?_, ?_, ?_⟩, ?_, ?_, ?_⟩
  · show (0 : Int) ≤ 10 ∧ (10 : Int) ≤ 30; omega
  · show (0 : Int) ≤ 0 ∧ (0 : Int) ≤ 30; omega
  · show 0 ≤ 12; omega
  · intro p hp; exact absurd hp (Nat.not_lt_zero p)
  · intro p q _ hq; exact absurd hq (Nat.not_lt_zero q)
  · show 0 ≤ 4; omega
  · intro p hp; exact absurd hp (Nat.not_lt_zero p)
  · show 0 ≤ 5; omega
  · intro p hp; exact absurd hp (Nat.not_lt_zero p)
  · intro p q _ hq; exact absurd hq (Nat.not_lt_zero q)
  · show 0 ≤ 6; omega
  · intro p hp; exact absurd hp (Nat.not_lt_zero p)
  · intro p q _ hq; exact absurd hq (Nat.not_lt_zero q)
theorem rowsIn_0 (w o : Nat) (c : Nat → Int32) (F : Nat → Nat → Int) : rowsIn w 0 o c F := fun p q hp _ => absurd hp (Nat.not_lt_zero p)
theorem a0_x (w3 w5 w7 w9 : Nat → Int32) : aX a0 (10, 0, 0, w3, 0, w5, 0, w7, 0, w9) := ⟨rfl, rfl, rfl, rowsIn_0 _ _ _ _, rfl, rowsIn_0 _ _ _ _, rfl, rowsIn_0 _ _ _ _, rfl, rowsIn_0 _ _ _ _⟩
theorem a0_m {N : Nat → Int32} (h0 : N 0 = 10) (h1 : N 1 = 0) (h2 : N 2 = 0) (h3 : N 3 = 0) (h4 : N 4 = 0) (h5 : N 5 = 0) : aM a0 N 0 := ⟨h0, h1, h2, h3, h4, h5, rowsIn_0 _ _ _ _, rowsIn_0 _ _ _ _, rowsIn_0 _ _ _ _, rowsIn_0 _ _ _ _⟩
theorem m_anew {N : Nat → Int32} {k : (Nat → Int32) → Prop} (hk : ∀ N', aM a0 N' 0 → (∀ q, 6 ≤ q → N' q = N q) → k N') : pX12_anew N k := by
  unfold pX12_anew
  rw [c0, c1, c2, c3, c4, c5]
  refine hk _ (a0_m ?_ ?_ ?_ ?_ ?_ ?_) (fun q hq => ?_)
  · simp [upd]
  · simp [upd]
  · simp [upd]
  · simp [upd]
  · simp [upd]
  · simp [upd]
  · simp only [upd]
    rw [if_neg (by omega), if_neg (by omega), if_neg (by omega), if_neg (by omega), if_neg (by omega), if_neg (by omega)]
/-- what reading answers -/
def rdV (f : Int) (M : Nat) (z : Int) : Int := if f = -1 then (if z = -1 then (M : Int) else -1000 - z) else -10 - f
theorem m_read {t : Nat} {T : Nat → Int32} {v : Nat → Int} (ht : t ≤ 200) (hT : ∀ i, i < t → T i = zI (v i)) (hv : ∀ i, i < t → -128 ≤ v i ∧ v i ≤ 127) {I0 : Nat → Nat → Int} {N items : Nat → Int32} {x1 x2 x3 x4 x5 x6 : Int32} {K : Int32 → Int32 → Int32 → Int32 → Int32 → Int32 → Int32 → (Nat → Int32) → (Nat → Int32) → Prop}
    (h1 : ¬ (pf v t (t + 1) 0 0 0 0 I0).1 = -1 → ∀ a b c d e f it, K (zI (-10 - (pf v t (t + 1) 0 0 0 0 I0).1)) a b c d e f N it)
    (h2 : (pf v t (t + 1) 0 0 0 0 I0).1 = -1 → ¬ (tz (pf v t (t + 1) 0 0 0 0 I0).2.2 (pf v t (t + 1) 0 0 0 0 I0).2.1 0 a0).1 = -1 → ∀ N' a b c d e f it, (∀ q, q < 339 → N' q = N q) → K (zI (-1000 - (tz (pf v t (t + 1) 0 0 0 0 I0).2.2 (pf v t (t + 1) 0 0 0 0 I0).2.1 0 a0).1)) a b c d e f N' it)
    (h3 : (pf v t (t + 1) 0 0 0 0 I0).1 = -1 → (tz (pf v t (t + 1) 0 0 0 0 I0).2.2 (pf v t (t + 1) 0 0 0 0 I0).2.1 0 a0).1 = -1 → ∀ N' a b c d e f it, aM (tz (pf v t (t + 1) 0 0 0 0 I0).2.2 (pf v t (t + 1) 0 0 0 0 I0).2.1 0 a0).2 N' 0 → (∀ q, 113 ≤ q → q < 339 → N' q = N q) → K (zI ((pf v t (t + 1) 0 0 0 0 I0).2.1 : Int)) a b c d e f N' it) : pX12_read (zI t) x1 x2 x3 x4 x5 x6 N T items K := by
  unfold pX12_read
  refine m_next ht hT hv (i := 0) (by omega) rfl (fun a b c d hS => ⟨t + 1 + 1, m_top ht hT hv (t + 1) (t + 1) 0 0 I0 a b c d items (by omega) (by omega) (by omega) (fun k hk => absurd hk (by omega)) (by omega) hS ?_⟩)
  refine ⟨fun hf a b c d it hM hA => ?_, fun hf hr a b c d mm it => ?_⟩
  · unfold pX12_read_43
    refine brT rfl (m_cp (f := 0) (t := 339) rfl rfl (by omega) (by omega) (by omega) (fun N1 c1 c2 => m_anew (fun N2 hm2 hu => ⟨(pf v t (t + 1) 0 0 0 0 I0).2.1 + 1, ?_⟩)))
    have hN1 : ∀ q, q < 339 → N1 q = N q := fun q hq => c2 q (by omega)
    refine m_rd73 hM hA (N0 := N1) _ 0 a0 N2 (Nat.zero_add _) a0_ok hm2 (fun q hq => hu q (by omega)) (fun g N3 hm3 hn3 => ?_) (fun g N3 hr3 hn3 => ?_)
    · exact h3 hf g N3 _ _ _ _ _ _ _ hm3 (fun q a b => by rw [hn3 q a, hN1 q b])
    · rw [show (-1000 : Int32) = zI (-1000) from by decide, zI_sub]
      refine h2 hf g N3 _ _ _ _ _ _ _ (fun q hq => ?_)
      by_cases z : q < 113
      · have := c1 q z
        rw [Nat.zero_add] at this
        rw [hr3 q z, this]
      · rw [hn3 q (by omega), hN1 q hq]
  · unfold pX12_read_43
    refine brF (by ((try simp only [zI_lit, zI_neg, zI_add, zI_sub, zI_mul, zI_n, ne_eq]) <;> (first | rw [zI_lt (by omega) (by omega)] | rw [zI_le (by omega) (by omega)] | rw [zI_eq (by omega) (by omega)]); try omega)) ?_
    rw [show (-10 : Int32) = zI (-10) from by decide, zI_sub]
    exact h1 hf _ _ _ _ _ _ _
set_option maxHeartbeats 4000000 in
theorem st_8 : ∀ (s_above : Int64) (s_below : Int64) (s_badCalls : Int32) (s_noCalls : Int32) (s_fullCalls : Int32) (s_road_high : Int32) (s_road_low : Int32) (s_road_passers_size : Int32) (s_road_passers_cells : Nat → Int32) (s_road_beasts_size : Int32) (s_road_beasts_cells : Nat → Int32) (s_road_checks_size : Int32) (s_road_checks_cells : Nat → Int32) (s_road_looks_size : Int32) (s_road_looks_cells : Nat → Int32) (s_trial_high : Int32) (s_trial_low : Int32) (s_trial_passers_size : Int32) (s_trial_passers_cells : Nat → Int32) (s_trial_beasts_size : Int32) (s_trial_beasts_cells : Nat → Int32) (s_trial_checks_size : Int32) (s_trial_checks_cells : Nat → Int32) (s_trial_looks_size : Int32) (s_trial_looks_cells : Nat → Int32) (s_text_length : Int32) (s_text_place : Int32) (s_text_next : Int32) (s_text_bytes : Nat → Int32) (s_text_items_size : Int32) (s_text_items_cells : Nat → Int32) (s_hiring_men : Int32) (s_hiring_goal : Int32) (s_hiring_goalMen : Int32) (s_hiring_fewest : Nat → Int32) (s_hiring_gains : Nat → Int32) (s_spread_now : Nat → Int64) (s_spread_later : Nat → Int64) (s_choices : Nat → Int32) (s_ends : Nat → Int32) (s_laterEnds : Nat → Int32) (s1_above : Int64) (s1_below : Int64) (s1_typed : Int32) (s1_at : Int32) (s1_start : Int32) (s1_sort : Int32) (s1_value : Int32) (s1_fault : Int32) (s1_itemsMany : Int32) (s1_goneHeight : Int32) (s1_goneDid : Int32) (s1_now : Nat → Int32) (s1_isKept : Nat → Int32) (s1_refused : Nat → Int32) (s1_text : Nat → Int32) (s1_items : Nat → Int32) (s1_did : Nat → Int32) (s1_fewest : Nat → Int32) (s1_chosen : Nat → Int32) (s1_ends : Nat → Int32) (s1_rows : Nat → Int32) (s1_ways : Nat → Int64) (s1_then : Nat → Int64) (o0 : Option RD) (o1 : Option RD) (v1 v2 v3 v4 : Int32), RelS s_above s_below s_badCalls s_noCalls s_fullCalls s_road_high s_road_low s_road_passers_size s_road_passers_cells s_road_beasts_size s_road_beasts_cells s_road_checks_size s_road_checks_cells s_road_looks_size s_road_looks_cells s_trial_high s_trial_low s_trial_passers_size s_trial_passers_cells s_trial_beasts_size s_trial_beasts_cells s_trial_checks_size s_trial_checks_cells s_trial_looks_size s_trial_looks_cells s_text_length s_text_place s_text_next s_text_bytes s_text_items_size s_text_items_cells s_hiring_men s_hiring_goal s_hiring_goalMen s_hiring_fewest s_hiring_gains s_spread_now s_spread_later s_choices s_ends s_laterEnds s1_above s1_below s1_typed s1_at s1_start s1_sort s1_value s1_fault s1_itemsMany s1_goneHeight s1_goneDid s1_now s1_isKept s1_refused s1_text s1_items s1_did s1_fewest s1_chosen s1_ends s1_rows s1_ways s1_then o0 o1 → pL_8 RelS s_above s_below s_badCalls s_noCalls s_fullCalls s_road_high s_road_low s_road_passers_size s_road_passers_cells s_road_beasts_size s_road_beasts_cells s_road_checks_size s_road_checks_cells s_road_looks_size s_road_looks_cells s_trial_high s_trial_low s_trial_passers_size s_trial_passers_cells s_trial_beasts_size s_trial_beasts_cells s_trial_checks_size s_trial_checks_cells s_trial_looks_size s_trial_looks_cells s_text_length s_text_place s_text_next s_text_bytes s_text_items_size s_text_items_cells s_hiring_men s_hiring_goal s_hiring_goalMen s_hiring_fewest s_hiring_gains s_spread_now s_spread_later s_choices s_ends s_laterEnds s1_above s1_below s1_typed s1_at s1_start s1_sort s1_value s1_fault s1_itemsMany s1_goneHeight s1_goneDid s1_now s1_isKept s1_refused s1_text s1_items s1_did s1_fewest s1_chosen s1_ends s1_rows s1_ways s1_then o0 o1 v1 v2 v3 v4 := by
  intro s_above s_below s_badCalls s_noCalls s_fullCalls s_road_high s_road_low s_road_passers_size s_road_passers_cells s_road_beasts_size s_road_beasts_cells s_road_checks_size s_road_checks_cells s_road_looks_size s_road_looks_cells s_trial_high s_trial_low s_trial_passers_size s_trial_passers_cells s_trial_beasts_size s_trial_beasts_cells s_trial_checks_size s_trial_checks_cells s_trial_looks_size s_trial_looks_cells s_text_length s_text_place s_text_next s_text_bytes s_text_items_size s_text_items_cells s_hiring_men s_hiring_goal s_hiring_goalMen s_hiring_fewest s_hiring_gains s_spread_now s_spread_later s_choices s_ends s_laterEnds s1_above s1_below s1_typed s1_at s1_start s1_sort s1_value s1_fault s1_itemsMany s1_goneHeight s1_goneDid s1_now s1_isKept s1_refused s1_text s1_items s1_did s1_fewest s1_chosen s1_ends s1_rows s1_ways s1_then o0 o1 v1 v2 v3 v4 hR
  obtain ⟨hRd, hI0, hI1, hT, hab, hbe, hb, hn, hfu⟩ := hR
  unfold pL_8
  obtain ⟨t, ht, e1, e2, e3⟩ := id hT
  have hB : ∀ i, i < t → s_text_bytes i = zI ((s_text_bytes i).toInt) := fun i hi => (zI_of _).symm
  have hTt : ∀ i, i < t → s1_text i = zI ((s_text_bytes i).toInt) := fun i hi => by rw [zI_of]; exact (e3 i hi).1.symm
  have hv : ∀ i, i < t → -128 ≤ (s_text_bytes i).toInt ∧ (s_text_bytes i).toInt ≤ 127 := fun i hi => (e3 i hi).2
  rw [e1, e2]
  have hT' : TextRel (zI t) s_text_bytes (zI t) s1_text := ⟨t, ht, rfl, rfl, e3⟩
  unfold pX11_read pX6_findFault pX7_dropAll
  refine ⟨t + 1, x_ff (v := fun i => (s_text_bytes i).toInt) ht hB hv (t + 1) 0 0 0 0 0 (fun _ _ => 0) s_text_items_cells s_text_place 0 0 0 0 (by omega) (by omega) (by omega) (fun k hk => absurd hk (by omega)) (by rw [if_pos rfl]; omega) (fun _ => ⟨rfl, rfl⟩) (fun z => absurd z (by omega)) ?_⟩
  refine ⟨fun hf pl nx cells hM hA => brT rfl ?_, fun hf hr pl nx sz cells => brF (by ((try simp only [zI_lit, zI_neg, zI_add, zI_sub, zI_mul, zI_n, ne_eq]) <;> (first | rw [zI_lt (by omega) (by omega)] | rw [zI_le (by omega) (by omega)] | rw [zI_eq (by omega) (by omega)]); try omega)) ?_⟩
  · unfold pX5_makeNew pX7_dropAll pX6_itemCount pX7_size
    refine ⟨_, x_rd35 hM hA _ 0 a0 _ _ _ _ _ _ _ _ _ _ (Nat.zero_add _) a0_ok (a0_x _ _ _ _) (fun g w0 w1 w2 w3 w4 w5 w6 w7 w8 w9 hx1 => ?_) (fun g w0 w1 w2 w3 w4 w5 w6 w7 w8 w9 => ?_)⟩
    · have tok := tz_ok (pf (fun i => (s_text_bytes i).toInt) t (t + 1) 0 0 0 0 (fun _ _ => 0)).2.2 (pf (fun i => (s_text_bytes i).toInt) t (t + 1) 0 0 0 0 (fun _ _ => 0)).2.1 0 a0 a0_ok
      refine x_rb tok hx1 (fun u0 u1 u2 u3 u4 u5 u6 u7 u8 u9 hx2 => ?_)
      refine m_read (v := fun i => (s_text_bytes i).toInt) (I0 := fun _ _ => 0) ht hTt hv (fun z => absurd hf z) (fun _ z => absurd g z) (fun _ _ N' a b c d e f it hmN hN => ?_)
      exact ⟨fun _ => ⟨aRel tok hx2 hmN, hI0.congr (fun i a b => hN i (by omega) (by omega)), hI1.congr (fun i a b => hN i (by omega) (by omega)), hT', hab, hbe, hb, hn, hfu⟩, fun z => z rfl⟩
    · refine m_read (v := fun i => (s_text_bytes i).toInt) (I0 := fun _ _ => 0) ht hTt hv (fun z => absurd hf z) (fun _ _ N' a b c d e f it hN => ?_) (fun _ z => absurd z g)
      exact ⟨fun _ => ⟨hRd.congr (fun i a b => hN i (by omega)), hI0.congr (fun i a b => hN i (by omega)), hI1.congr (fun i a b => hN i (by omega)), hT', hab, hbe, hb, hn, hfu⟩, fun z => z (by rw [show (-1000 : Int32) = zI (-1000) from by decide, zI_sub])⟩
  · refine m_read (v := fun i => (s_text_bytes i).toInt) (I0 := fun _ _ => 0) ht hTt hv (fun _ a b c d e f it => ?_) (fun z => absurd z hf) (fun z => absurd z hf)
    exact ⟨fun _ => ⟨hRd, hI0, hI1, hT', hab, hbe, hb, hn, hfu⟩, fun z => z (by rw [show (-10 : Int32) = zI (-10) from by decide, zI_sub])⟩
