/-! the class's small methods, in closed form -/
theorem x_within (a b c : Int32) (k : Int32 → Prop) : pX11_within a b c k = if b ≤ a ∧ a ≤ c then k 1 else k 0 := by
  unfold pX11_within
  rw [br_if, br_if]
  by_cases h1 : a < b
  · rw [if_pos h1, if_neg (fun q => absurd h1 (Int32.not_lt.mpr q.1))]
  · rw [if_neg h1]
    have h1' := Int32.not_lt.mp h1
    by_cases h2 : c < a
    · rw [if_pos h2, if_neg (fun q => absurd h2 (Int32.not_lt.mpr q.2))]
    · rw [if_neg h2, if_pos ⟨h1', Int32.not_lt.mp h2⟩]
theorem m_in (a b c : Int32) (k : Int32 → Prop) : pX12_in a b c k = if b ≤ a ∧ a ≤ c then k 1 else k 0 := by
  unfold pX12_in
  rw [br_if, br_if]
  by_cases h1 : a < b
  · rw [if_pos h1, if_neg (fun q => absurd h1 (Int32.not_lt.mpr q.1))]
  · rw [if_neg h1]
    have h1' := Int32.not_lt.mp h1
    by_cases h2 : c < a
    · rw [if_pos h2, if_neg (fun q => absurd h2 (Int32.not_lt.mpr q.2))]
    · rw [if_neg h2, if_pos ⟨h1', Int32.not_lt.mp h2⟩]
theorem vbz_0 : vbz 0 := Or.inl rfl
theorem vbz_1 : vbz 1 := Or.inr rfl
theorem x_isHigh (a : Int32) (k : Int32 → Prop) : pX11_isHigh a k = if 0 ≤ a ∧ a ≤ 30 then k 1 else k 0 := by
  unfold pX11_isHigh
  rw [x_within]
  simp [vbz_0, vbz_1]
theorem x_isMinute (a : Int32) (k : Int32 → Prop) : pX11_isMinute a k = if 0 ≤ a ∧ a ≤ 99 then k 1 else k 0 := by
  unfold pX11_isMinute
  rw [x_within]
  simp [vbz_0, vbz_1]
theorem x_setHigh (h a : Int32) (k : Int32 → Int32 → Prop) : pX5_setHigh h a k = if 0 ≤ a ∧ a ≤ 30 then k h a else k (-2) h := by
  unfold pX5_setHigh
  rw [x_isHigh]
  by_cases q : 0 ≤ a ∧ a ≤ 30 <;> simp [q]
theorem x_setLow (h a : Int32) (k : Int32 → Int32 → Prop) : pX5_setLow h a k = if 0 ≤ a ∧ a ≤ 30 then k h a else k (-2) h := by
  unfold pX5_setLow
  rw [x_isHigh]
  by_cases q : 0 ≤ a ∧ a ≤ 30 <;> simp [q]
/-- counted: an answer that is no refusal -/
theorem x_counted_ok (b n f a : Int32) (k : Int32 → Int32 → Int32 → Int32 → Prop) (h2 : a ≠ -2) (h3 : a ≠ -3) (h4 : a ≠ -4) : pX11_counted b n f a k = k a b n f := by
  unfold pX11_counted
  simp [h2, h3, h4]
theorem x_counted_bad (b n f : Int32) (k : Int32 → Int32 → Int32 → Int32 → Prop) : pX11_counted b n f (-2) k = k (-2) (b + 1) n f := by
  unfold pX11_counted
  simp
theorem x_counted_no (b n f : Int32) (k : Int32 → Int32 → Int32 → Int32 → Prop) : pX11_counted b n f (-3) k = k (-3) b (n + 1) f := by
  unfold pX11_counted
  rw [br_if, br_if, if_neg (by decide), if_pos rfl]
theorem x_counted_full (b n f : Int32) (k : Int32 → Int32 → Int32 → Int32 → Prop) : pX11_counted b n f (-4) k = k (-4) b n (f + 1) := by
  unfold pX11_counted
  rw [br_if, br_if, br_if, if_neg (by decide), if_neg (by decide), if_pos rfl]
theorem c0 : (0 : Int32).toNatClampNeg = 0 := by decide
theorem c1 : (1 : Int32).toNatClampNeg = 1 := by decide
theorem c2 : (2 : Int32).toNatClampNeg = 2 := by decide
theorem c3 : (3 : Int32).toNatClampNeg = 3 := by decide
theorem c4 : (4 : Int32).toNatClampNeg = 4 := by decide
theorem c5 : (5 : Int32).toNatClampNeg = 5 := by decide
theorem m_setWall (now : Nat → Int32) (a : Int32) (k : Int32 → (Nat → Int32) → Prop) : pX12_setWall now a k = if 0 ≤ a ∧ a ≤ 30 then k (now 0) (upd now 0 a) else k (-2) now := by
  unfold pX12_setWall
  rw [m_in, c0]
  by_cases q : 0 ≤ a ∧ a ≤ 30 <;> simp [q]
theorem m_setCoach (now : Nat → Int32) (a : Int32) (k : Int32 → (Nat → Int32) → Prop) : pX12_setCoach now a k = if 0 ≤ a ∧ a ≤ 30 then k (now 1) (upd now 1 a) else k (-2) now := by
  unfold pX12_setCoach
  rw [m_in, c1]
  by_cases q : 0 ≤ a ∧ a ≤ 30 <;> simp [q]
theorem m_bad (r : Nat → Int32) (k : Int32 → (Nat → Int32) → Prop) : pX12_bad r k = k (-2) (upd r 0 (r 0 + 1)) := by
  unfold pX12_bad
  rw [c0]
theorem m_no (r : Nat → Int32) (k : Int32 → (Nat → Int32) → Prop) : pX12_no r k = k (-3) (upd r 1 (r 1 + 1)) := by
  unfold pX12_no
  rw [c1]
theorem m_full (r : Nat → Int32) (k : Int32 → (Nat → Int32) → Prop) : pX12_full r k = k (-4) (upd r 2 (r 2 + 1)) := by
  unfold pX12_full
  rw [c2]
theorem m_told_ok (r : Nat → Int32) (a : Int32) (k : Int32 → (Nat → Int32) → Prop) (h2 : a ≠ -2) (h4 : a ≠ -4) : pX12_told r a k = k a r := by
  unfold pX12_told
  simp [h2, h4]
theorem m_told_bad (r : Nat → Int32) (k : Int32 → (Nat → Int32) → Prop) : pX12_told r (-2) k = k (-2) (upd r 0 (r 0 + 1)) := by
  unfold pX12_told
  rw [br_if, if_pos rfl, m_bad]
theorem m_told_full (r : Nat → Int32) (k : Int32 → (Nat → Int32) → Prop) : pX12_told r (-4) k = k (-4) (upd r 2 (r 2 + 1)) := by
  unfold pX12_told
  rw [br_if, br_if, if_neg (by decide), if_pos rfl, m_full]
