/-! numbers: an Int32 as the image of an Int -/
def zI (z : Int) : Int32 := Int32.ofInt z
theorem zI_of (x : Int32) : zI x.toInt = x := Int32.ofInt_toInt x
theorem zI_bmod {z : Int} (h1 : -2147483648 ≤ z) (h2 : z < 2147483648) : z.bmod (2 ^ 32) = z := by
  rw [Int.bmod_eq_of_le (by omega) (by omega)]
theorem zI_toInt {z : Int} (h : -2147483648 ≤ z ∧ z < 2147483648) : (zI z).toInt = z := by
  show (Int32.ofInt z).toInt = z
  rw [Int32.toInt_ofInt]
  exact zI_bmod h.1 h.2
theorem zI_add (a b : Int) : zI a + zI b = zI (a + b) := (Int32.ofInt_add a b).symm
theorem zI_sub (a b : Int) : zI a - zI b = zI (a - b) := (Int32.ofInt_sub a b).symm
theorem zI_mul (a b : Int) : zI a * zI b = zI (a * b) := (Int32.ofInt_mul a b).symm
theorem zI_neg (a : Int) : - zI a = zI (-a) := (Int32.ofInt_neg a).symm
theorem zI_n (n : Nat) : nI n = zI (n : Int) := by
  apply Int32.toInt_inj.1
  show (Int32.ofNat n).toInt = (Int32.ofInt n).toInt
  rw [Int32.toInt_ofInt, Int32.toInt_ofNat']
theorem zI_lit (n : Nat) : (OfNat.ofNat n : Int32) = zI (OfNat.ofNat n : Int) := zI_n n
theorem zI_lt {a b : Int} (ha : -2147483648 ≤ a ∧ a < 2147483648) (hb : -2147483648 ≤ b ∧ b < 2147483648) : (zI a < zI b) = (a < b) := by
  apply propext
  rw [Int32.lt_iff_toInt_lt, zI_toInt ha, zI_toInt hb]
theorem zI_le {a b : Int} (ha : -2147483648 ≤ a ∧ a < 2147483648) (hb : -2147483648 ≤ b ∧ b < 2147483648) : (zI a ≤ zI b) = (a ≤ b) := by
  apply propext
  rw [Int32.le_iff_toInt_le, zI_toInt ha, zI_toInt hb]
theorem zI_eq {a b : Int} (ha : -2147483648 ≤ a ∧ a < 2147483648) (hb : -2147483648 ≤ b ∧ b < 2147483648) : (zI a = zI b) = (a = b) := by
  apply propext
  rw [← Int32.toInt_inj, zI_toInt ha, zI_toInt hb]
theorem zI_clamp {a : Int} (h : 0 ≤ a ∧ a < 2147483648) : (zI a).toNatClampNeg = a.toNat := by
  show (zI a).toInt.toNat = a.toNat
  rw [zI_toInt (by omega)]
theorem zI_in {a : Int} {n : Nat} (h : -2147483648 ≤ a ∧ a < 2147483648) : vp_in (zI a) n = (0 ≤ a ∧ a < (n : Int)) := by
  apply propext
  rw [vp_in_iff, zI_toInt h]
theorem zI_abs {a : Int} (h : -2147483647 ≤ a ∧ a < 2147483648) : mabs (zI a) = zI (if 0 ≤ a then a else -a) := by
  unfold mabs
  have e : ((0 : Int32) ≤ zI a) = (0 ≤ a) := by rw [show (0 : Int32) = zI 0 from rfl]; exact zI_le (by omega) (by omega)
  by_cases q : 0 ≤ a
  · rw [if_pos (e.mpr q), if_pos q]
  · rw [if_neg (fun z => q (e.mp z)), if_neg q, show (0 : Int32) = zI 0 from rfl, zI_sub]
    congr 1; omega
theorem zI_min {a b : Int} (ha : -2147483648 ≤ a ∧ a < 2147483648) (hb : -2147483648 ≤ b ∧ b < 2147483648) : mmin (zI a) (zI b) = zI (if b < a then b else a) := by
  unfold mmin
  by_cases q : b < a
  · rw [if_pos ((zI_lt hb ha).mpr q), if_pos q]
  · rw [if_neg (fun z => q ((zI_lt hb ha).mp z)), if_neg q]
theorem zI_rng (x : Int32) : -2147483648 ≤ x.toInt ∧ x.toInt < 2147483648 := by
  have h1 := Int32.le_toInt x
  have h2 := Int32.toInt_lt x
  omega
/-- every Int32 is one -/
theorem zI_ex (x : Int32) : ∃ z : Int, x = zI z ∧ -2147483648 ≤ z ∧ z < 2147483648 := ⟨x.toInt, (zI_of x).symm, (zI_rng x).1, (zI_rng x).2⟩
theorem br_if {c A B : Prop} [Decidable c] : ((c → A) ∧ (¬ c → B)) = if c then A else B := by
  by_cases h : c
  · simp [h]
  · simp [h]
theorem upd_s (f : Nat → Int32) (k : Nat) (x : Int32) : upd f k x k = x := by simp [upd]
theorem upd_n (f : Nat → Int32) {k j : Nat} (x : Int32) (h : j ≠ k) : upd f k x j = f j := by simp [upd, h]
theorem updL_s (f : Nat → Int64) (k : Nat) (x : Int64) : vp_updL f k x k = x := by simp [vp_updL]
theorem updL_n (f : Nat → Int64) {k j : Nat} (x : Int64) (h : j ≠ k) : vp_updL f k x j = f j := by simp [vp_updL, h]
