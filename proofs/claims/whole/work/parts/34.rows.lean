/-! rows of numbers, on both sides -/
theorem x_at {n : Nat} {w p c : Int} {cells : Nat → Int32} {k : Int32 → Prop} (hn : (n : Int) < 2147483648) (hb : -2147483648 ≤ p * w + c ∧ p * w + c < 2147483648) : pX7_at n (zI w) cells (zI p) (zI c) k = if 0 ≤ p * w + c ∧ p * w + c < (n : Int) then k (cells (p * w + c).toNat) else k 0 := by
  unfold pX7_at
  rw [zI_mul, zI_add, zI_n, br_if, br_if]
  have e1 : (zI (p * w + c) < (0 : Int32)) = (p * w + c < 0) := by rw [show (0 : Int32) = zI 0 from rfl]; exact zI_lt hb (by omega)
  have e2 : (zI (n : Int) ≤ zI (p * w + c)) = ((n : Int) ≤ p * w + c) := zI_le (by omega) hb
  by_cases h1 : p * w + c < 0
  · rw [if_pos (e1.mpr h1), if_neg (by omega)]
  · rw [if_neg (fun z => h1 (e1.mp z))]
    by_cases h2 : (n : Int) ≤ p * w + c
    · rw [if_pos (e2.mpr h2), if_neg (by omega)]
    · rw [if_neg (fun z => h2 (e2.mp z)), if_pos (by omega), zI_in hb, zI_clamp (by omega)]
      exact propext ⟨fun z => z.2, fun z => ⟨by omega, z⟩⟩
theorem x_put {n : Nat} {w p c : Int} {cells : Nat → Int32} {x : Int32} {k : (Nat → Int32) → Prop} (hn : (n : Int) < 2147483648) (hb : -2147483648 ≤ p * w + c ∧ p * w + c < 2147483648) : pX7_put n (zI w) cells (zI p) (zI c) x k = if 0 ≤ p * w + c ∧ p * w + c < (n : Int) then k (upd cells (p * w + c).toNat x) else k cells := by
  unfold pX7_put
  rw [zI_mul, zI_add, zI_n, br_if, br_if]
  have e1 : (zI (p * w + c) < (0 : Int32)) = (p * w + c < 0) := by rw [show (0 : Int32) = zI 0 from rfl]; exact zI_lt hb (by omega)
  have e2 : (zI (n : Int) ≤ zI (p * w + c)) = ((n : Int) ≤ p * w + c) := zI_le (by omega) hb
  by_cases h1 : p * w + c < 0
  · rw [if_pos (e1.mpr h1), if_neg (by omega)]
  · rw [if_neg (fun z => h1 (e1.mp z))]
    by_cases h2 : (n : Int) ≤ p * w + c
    · rw [if_pos (e2.mpr h2), if_neg (by omega)]
    · rw [if_neg (fun z => h2 (e2.mp z)), if_pos (by omega), zI_in hb, zI_clamp (by omega)]
      exact propext ⟨fun z => z.2, fun z => ⟨by omega, z⟩⟩
theorem x_at6 {np : Nat} {cells : Nat → Int32} {P : Nat → Nat → Int} (h : rowsIn 6 np 0 cells P) (hnp : np ≤ 12) {p c : Nat} (hp : p < np) (hc : c < 6) {k : Int32 → Prop} : pX7_at 72 (zI 6) cells (zI p) (zI c) k = k (zI (P p c)) := by
  have e := h p c hp hc
  rw [x_at (by omega) (by omega), if_pos (by omega), show ((p : Int) * 6 + c).toNat = 0 + 6 * p + c by omega, e]
theorem x_at2 {n m : Nat} {cells : Nat → Int32} {P : Nat → Nat → Int} (h : rowsIn 2 n 0 cells P) (hm : 2 * n ≤ m) (hm2 : m < 1000) {p c : Nat} (hp : p < n) (hc : c < 2) {k : Int32 → Prop} : pX7_at m (zI 2) cells (zI p) (zI c) k = k (zI (P p c)) := by
  have e := h p c hp hc
  rw [x_at (by omega) (by omega), if_pos (by omega), show ((p : Int) * 2 + c).toNat = 0 + 2 * p + c by omega, e]
theorem x_at3 {n : Nat} {cells : Nat → Int32} {P : Nat → Nat → Int} (h : rowsIn 3 n 0 cells P) (hm : n ≤ 5) {p c : Nat} (hp : p < n) (hc : c < 3) {k : Int32 → Prop} : pX7_at 15 (zI 3) cells (zI p) (zI c) k = k (zI (P p c)) := by
  have e := h p c hp hc
  rw [x_at (by omega) (by omega), if_pos (by omega), show ((p : Int) * 3 + c).toNat = 0 + 3 * p + c by omega, e]
theorem m_of {np : Nat} {now : Nat → Int32} {P : Nat → Nat → Int} (h : rowsIn 6 np (0 + 6) now P) (hnp : np ≤ 12) {p c : Nat} (hp : p < np) (hc : c < 6) {k : Int32 → Prop} : pX12_ofPasser now (zI p) (zI c) k = k (zI (P p c)) := by
  unfold pX12_ofPasser
  have e := h p c hp hc
  rw [show (6 : Int32) = zI 6 from rfl, zI_mul, zI_add, zI_add, zI_in (by omega), zI_clamp (by omega), show ((6 : Int) + 6 * p + c).toNat = 0 + 6 + 6 * p + c by omega, e]
  exact propext ⟨fun z => z.2, fun z => ⟨by omega, z⟩⟩
