/-! rules for the small methods, numbers as images -/
theorem br1 {A B : Prop} (b : B) : (((1 : Int32) = 0) → A) ∧ (¬ (1 : Int32) = 0 → B) := brF (by decide) b
theorem br0 {A B : Prop} (a : A) : (((0 : Int32) = 0) → A) ∧ (¬ (0 : Int32) = 0 → B) := brT rfl a
theorem x_wi {a b c : Int} {B C : Int32} {k : Int32 → Prop} (eb : B = zI b) (ec : C = zI c) (ra : (-2147483648 ≤ a ∧ a < 2147483648)) (rb : (-2147483648 ≤ b ∧ b < 2147483648)) (rc : (-2147483648 ≤ c ∧ c < 2147483648)) (h1 : b ≤ a ∧ a ≤ c → k 1) (h0 : ¬ (b ≤ a ∧ a ≤ c) → k 0) : pX11_within (zI a) B C k := by
  rw [eb, ec, x_within]
  by_cases q : b ≤ a ∧ a ≤ c
  · rw [if_pos ⟨(zI_le rb ra).mpr q.1, (zI_le ra rc).mpr q.2⟩]; exact h1 q
  · rw [if_neg (fun z => q ⟨(zI_le rb ra).mp z.1, (zI_le ra rc).mp z.2⟩)]; exact h0 q
theorem m_wi {a b c : Int} {B C : Int32} {k : Int32 → Prop} (eb : B = zI b) (ec : C = zI c) (ra : (-2147483648 ≤ a ∧ a < 2147483648)) (rb : (-2147483648 ≤ b ∧ b < 2147483648)) (rc : (-2147483648 ≤ c ∧ c < 2147483648)) (h1 : b ≤ a ∧ a ≤ c → k 1) (h0 : ¬ (b ≤ a ∧ a ≤ c) → k 0) : pX12_in (zI a) B C k := by
  rw [eb, ec, m_in]
  by_cases q : b ≤ a ∧ a ≤ c
  · rw [if_pos ⟨(zI_le rb ra).mpr q.1, (zI_le ra rc).mpr q.2⟩]; exact h1 q
  · rw [if_neg (fun z => q ⟨(zI_le rb ra).mp z.1, (zI_le ra rc).mp z.2⟩)]; exact h0 q
theorem x_hi {a : Int} {k : Int32 → Prop} (ra : (-2147483648 ≤ a ∧ a < 2147483648)) (h1 : 0 ≤ a ∧ a ≤ 30 → k 1) (h0 : ¬ (0 ≤ a ∧ a ≤ 30) → k 0) : pX11_isHigh (zI a) k := by
  unfold pX11_isHigh
  exact x_wi (b := 0) (c := 30) rfl rfl ra (by omega) (by omega) (fun q => ⟨vbz_1, h1 q⟩) (fun q => ⟨vbz_0, h0 q⟩)
theorem x_mi {a : Int} {k : Int32 → Prop} (ra : (-2147483648 ≤ a ∧ a < 2147483648)) (h1 : 0 ≤ a ∧ a ≤ 99 → k 1) (h0 : ¬ (0 ≤ a ∧ a ≤ 99) → k 0) : pX11_isMinute (zI a) k := by
  unfold pX11_isMinute
  exact x_wi (b := 0) (c := 99) rfl rfl ra (by omega) (by omega) (fun q => ⟨vbz_1, h1 q⟩) (fun q => ⟨vbz_0, h0 q⟩)
theorem x_has {n : Nat} {a : Int} {k : Int32 → Prop} (hn : n ≤ 100) (ra : (-2147483648 ≤ a ∧ a < 2147483648)) (h1 : 0 ≤ a ∧ a < n → k 1) (h0 : ¬ (0 ≤ a ∧ a < n) → k 0) : pX7_has (zI n) (zI a) k := by
  unfold pX7_has
  by_cases q : a < 0
  · exact brT (by ((try simp only [zI_lit, zI_neg, zI_add, zI_sub, zI_mul, zI_n, ne_eq]) <;> (first | rw [zI_lt (by omega) (by omega)] | rw [zI_le (by omega) (by omega)] | rw [zI_eq (by omega) (by omega)]); try omega)) (h0 (by omega))
  · refine brF (by ((try simp only [zI_lit, zI_neg, zI_add, zI_sub, zI_mul, zI_n, ne_eq]) <;> (first | rw [zI_lt (by omega) (by omega)] | rw [zI_le (by omega) (by omega)] | rw [zI_eq (by omega) (by omega)]); try omega)) ?_
    by_cases q2 : (n : Int) ≤ a
    · exact brT (by ((try simp only [zI_lit, zI_neg, zI_add, zI_sub, zI_mul, zI_n, ne_eq]) <;> (first | rw [zI_lt (by omega) (by omega)] | rw [zI_le (by omega) (by omega)] | rw [zI_eq (by omega) (by omega)]); try omega)) (h0 (by omega))
    · exact brF (by ((try simp only [zI_lit, zI_neg, zI_add, zI_sub, zI_mul, zI_n, ne_eq]) <;> (first | rw [zI_lt (by omega) (by omega)] | rw [zI_le (by omega) (by omega)] | rw [zI_eq (by omega) (by omega)]); try omega)) (h1 (by omega))
theorem m_isP {n : Nat} {N : Nat → Int32} {a : Int} {k : Int32 → Prop} (e : N 2 = zI n) (hn : n ≤ 100) (ra : (-2147483648 ≤ a ∧ a < 2147483648)) (h1 : 0 ≤ a ∧ a < n → k 1) (h0 : ¬ (0 ≤ a ∧ a < n) → k 0) : pX12_isPasser N (zI a) k := by
  unfold pX12_isPasser
  rw [c2, e]
  have e1 : zI (n : Int) - 1 = zI ((n : Int) - 1) := by ((try simp only [zI_lit, zI_neg, zI_add, zI_sub, zI_mul, zI_n]) <;> (first | rfl | (refine zI_eqI ?_; omega)))
  exact m_wi (b := 0) (c := (n : Int) - 1) rfl e1 ra (by omega) (by omega) (fun q => ⟨vbz_1, h1 (by omega)⟩) (fun q => ⟨vbz_0, h0 (by omega)⟩)
theorem x_op {n mo : Nat} {M : Int32} {k : Int32 → Int32 → Prop} (e : M = zI mo) (hn : n ≤ 100) (hm : mo ≤ 100) (h1 : n < mo → k (zI n) (zI ((n + 1 : Nat) : Int))) (h0 : ¬ n < mo → k (-4) (zI n)) : pX7_open M (zI n) k := by
  unfold pX7_open pX7_isFull
  rw [e]
  have e1 : zI (n : Int) + 1 - 1 = zI n := by ((try simp only [zI_lit, zI_neg, zI_add, zI_sub, zI_mul, zI_n]) <;> (first | rfl | (refine zI_eqI ?_; omega)))
  have e2 : zI (n : Int) + 1 = zI ((n + 1 : Nat) : Int) := by ((try simp only [zI_lit, zI_neg, zI_add, zI_sub, zI_mul, zI_n]) <;> (first | rfl | (refine zI_eqI ?_; omega)))
  rw [e1, e2]
  by_cases q : n < mo
  · exact brT (by ((try simp only [zI_lit, zI_neg, zI_add, zI_sub, zI_mul, zI_n, ne_eq]) <;> (first | rw [zI_lt (by omega) (by omega)] | rw [zI_le (by omega) (by omega)] | rw [zI_eq (by omega) (by omega)]); try omega)) (br0 (h1 q))
  · exact brF (by ((try simp only [zI_lit, zI_neg, zI_add, zI_sub, zI_mul, zI_n, ne_eq]) <;> (first | rw [zI_lt (by omega) (by omega)] | rw [zI_le (by omega) (by omega)] | rw [zI_eq (by omega) (by omega)]); try omega)) (br1 (h0 q))
theorem x_pt {n w p c : Nat} {W C : Int32} {cells : Nat → Int32} {x : Int32} {k : (Nat → Int32) → Prop} (ew : W = zI w) (ec : C = zI c) (hn : n ≤ 1000) (hp : w * p + c < n) (hk : k (upd cells (w * p + c) x)) : pX7_put n W cells (zI p) C x k := by
  have e : (p : Int) * (w : Int) + c = ((w * p + c : Nat) : Int) := by rw [Int.mul_comm]; simp
  rw [ew, ec, x_put (by omega) (by omega), e, if_pos (by omega), Int.toNat_natCast]; exact hk
/-- the last row's minute -/
theorem x_la {n m w : Nat} {W : Int32} {cells : Nat → Int32} {F : Nat → Nat → Int} {k : Int32 → Prop} (h : rowsIn w n 0 cells F) (ew : W = zI w) (hw : 0 < w) (hm : m ≤ 1000) (hb : w * n ≤ m) (h0 : n = 0 → k (-1)) (h1 : 0 < n → k (zI (F (n - 1) 0))) (hn : n ≤ 100) : pX7_lastAt m W (zI n) cells 0 k := by
  unfold pX7_lastAt
  by_cases q : n = 0
  · exact brT (by rw [q]; rfl) (h0 q)
  · refine brF (by ((try simp only [zI_lit, zI_neg, zI_add, zI_sub, zI_mul, zI_n, ne_eq]) <;> (first | rw [zI_lt (by omega) (by omega)] | rw [zI_le (by omega) (by omega)] | rw [zI_eq (by omega) (by omega)]); try omega)) ?_
    have e1 : zI (n : Int) - 1 = zI ((n - 1 : Nat) : Int) := by ((try simp only [zI_lit, zI_neg, zI_add, zI_sub, zI_mul, zI_n]) <;> (first | rfl | (refine zI_eqI ?_; omega)))
    have e := h (n - 1) 0 (by omega) hw
    have e2 : w * (n - 1) + w = w * n := by rw [← Nat.mul_succ]; congr 1; omega
    have e3 : ((n - 1 : Nat) : Int) * (w : Int) + 0 = ((0 + w * (n - 1) + 0 : Nat) : Int) := by rw [Int.mul_comm]; simp
    rw [e1, ew, z0, x_at (by omega) (by omega), e3, if_pos (by omega), Int.toNat_natCast, e]
    exact h1 (by omega)
/-! one row more -/
def snoc (n : Nat) (F : Nat → Nat → Int) (R : Nat → Int) : Nat → Nat → Int := fun p c => if p = n then R c else F p c
theorem snoc_s (n : Nat) (F : Nat → Nat → Int) (R : Nat → Int) (c : Nat) : snoc n F R n c = R c := by simp [snoc]
theorem snoc_n {n p : Nat} (F : Nat → Nat → Int) (R : Nat → Int) (c : Nat) (h : p ≠ n) : snoc n F R p c = F p c := by simp [snoc, h]
theorem rowsIn.snoc {w n o : Nat} {c c' : Nat → Int32} {F : Nat → Nat → Int} {R : Nat → Int} (h : rowsIn w n o c F) (e : ∀ i, o ≤ i → i < o + w * n → c' i = c i) (e2 : ∀ j, j < w → c' (o + w * n + j) = zI (R j)) : rowsIn w (n + 1) o c' (snoc n F R) := fun p j hp hj => by
  by_cases q : p = n
  · rw [q, snoc_s]; exact e2 j hj
  · rw [snoc_n _ _ _ q]; exact (h.congr e) p j (by omega) hj
def r6 (a b c d e f : Int) : Nat → Int := fun k => match k with
  | 0 => a
  | 1 => b
  | 2 => c
  | 3 => d
  | 4 => e
  | _ => f
abbrev gP (np : Nat) (P : Nat → Nat → Int) (m k b w : Int) : Prop := (0 ≤ m ∧ m ≤ 99) ∧ (np = 0 ∨ P (np - 1) 0 ≤ m) ∧ (0 ≤ k ∧ k ≤ 5) ∧ (0 ≤ b ∧ b ≤ 1) ∧ 0 ≤ w ∧ w ≤ 30
abbrev gB (m j : Int) : Prop := (0 ≤ m ∧ m ≤ 99) ∧ 0 ≤ j ∧ j ≤ 30
abbrev gC (nc : Nat) (C : Nat → Nat → Int) (m a b : Int) : Prop := (0 ≤ m ∧ m ≤ 99) ∧ (nc = 0 ∨ C (nc - 1) 0 < m) ∧ (0 ≤ a ∧ a ≤ 30) ∧ (0 ≤ b ∧ b ≤ 30) ∧ a ≤ b
abbrev gL (nl : Nat) (L : Nat → Nat → Int) (m j : Int) : Prop := (0 ≤ m ∧ m ≤ 99) ∧ (nl = 0 ∨ L (nl - 1) 0 ≤ m) ∧ 0 ≤ j ∧ j ≤ 30
theorem x_addP {np : Nat} {cells : Nat → Int32} {P : Nat → Nat → Int} (hx : rowsIn 6 np 0 cells P) (hP : okP np P) {m k b w : Int} (hm : (-2147483648 ≤ m ∧ m < 2147483648)) (hk : (-2147483648 ≤ k ∧ k < 2147483648)) (hb : (-2147483648 ≤ b ∧ b < 2147483648)) (hw : (-2147483648 ≤ w ∧ w < 2147483648)) {K : Int32 → Int32 → (Nat → Int32) → Prop}
    (h1 : ¬ gP np P m k b w → K (-2) (zI np) cells) (h2 : gP np P m k b w → np = 12 → K (-4) (zI np) cells)
    (h3 : gP np P m k b w → np < 12 → ∀ c', rowsIn 6 (np + 1) 0 c' (snoc np P (r6 m k b w 3 3)) → K (zI np) (zI ((np + 1 : Nat) : Int)) c') : pX5_addPasser (zI np) cells (zI m) (zI k) (zI b) (zI w) K := by
  have h12 := hP.1
  have b24 : ∀ {A : Prop}, ¬ gP np P m k b w → pX5_addPasser_23 K (zI m) (zI k) (zI b) (zI w) (zI np) cells := fun g => by
    unfold pX5_addPasser_23 pX5_addPasser_24
    exact br0 (h1 g)
  unfold pX5_addPasser
  refine x_mi hm (fun g1 => br1 ?_) (fun g1 => br0 (b24 (A := True) (fun g => g1 g.1)))
  have main : (np = 0 ∨ P (np - 1) 0 ≤ m) → pX5_addPasser_24 K (zI m) (zI k) (zI b) (zI w) 1 (zI np) cells := fun g2 => by
    unfold pX5_addPasser_24
    refine br1 (x_wi (b := 0) (c := 5) rfl rfl hk (by omega) (by omega) (fun g3 => br1 ?_) (fun g3 => br0 (h1 (fun g => g3 g.2.2.1))))
    refine x_wi (b := 0) (c := 1) rfl rfl hb (by omega) (by omega) (fun g4 => br1 ?_) (fun g4 => br0 (h1 (fun g => g4 g.2.2.2.1)))
    refine x_hi hw (fun g5 => br1 ?_) (fun g5 => br0 (h1 (fun g => g5 g.2.2.2.2)))
    have g : gP np P m k b w := ⟨g1, g2, g3, g4, g5⟩
    refine x_op (mo := 12) rfl (by omega) (by omega) (fun q => ?_) (fun q => brT rfl (h2 g (by omega)))
    refine brF (by ((try simp only [zI_lit, zI_neg, zI_add, zI_sub, zI_mul, zI_n, ne_eq]) <;> (first | rw [zI_lt (by omega) (by omega)] | rw [zI_le (by omega) (by omega)] | rw [zI_eq (by omega) (by omega)]); try omega)) ?_
    refine x_pt (w := 6) (c := 0) rfl rfl (by omega) (by omega) ?_
    refine x_pt (w := 6) (c := 1) rfl rfl (by omega) (by omega) ?_
    refine x_pt (w := 6) (c := 2) rfl rfl (by omega) (by omega) ?_
    refine x_pt (w := 6) (c := 3) rfl rfl (by omega) (by omega) ?_
    refine x_pt (w := 6) (c := 4) rfl rfl (by omega) (by omega) ?_
    refine x_pt (w := 6) (c := 5) rfl rfl (by omega) (by omega) ?_
    refine h3 g q _ (rowsIn.snoc hx (fun i a b => ?_) (fun j hj => ?_))
    · simp only [upd]
      rw [if_neg (by omega), if_neg (by omega), if_neg (by omega), if_neg (by omega), if_neg (by omega), if_neg (by omega)]
    · rcases (show j = 0 ∨ j = 1 ∨ j = 2 ∨ j = 3 ∨ j = 4 ∨ j = 5 by omega) with rfl | rfl | rfl | rfl | rfl | rfl <;> (simp [upd, r6] <;> try rfl)
  refine x_la (w := 6) hx rfl (by omega) (by omega) (by omega) (fun q => ?_) (fun q => ?_) (by omega)
  · exact brF (by ((try simp only [zI_lit, zI_neg, zI_add, zI_sub, zI_mul, zI_n, ne_eq]) <;> (first | rw [zI_lt (by omega) (by omega)] | rw [zI_le (by omega) (by omega)] | rw [zI_eq (by omega) (by omega)]); try omega)) (main (Or.inl q))
  · have o1 := (hP.2.1 (np - 1) (by omega)).1
    by_cases g2 : P (np - 1) 0 ≤ m
    · exact brF (by ((try simp only [zI_lit, zI_neg, zI_add, zI_sub, zI_mul, zI_n, ne_eq]) <;> (first | rw [zI_lt (by omega) (by omega)] | rw [zI_le (by omega) (by omega)] | rw [zI_eq (by omega) (by omega)]); try omega)) (main (Or.inr g2))
    · exact brT (by ((try simp only [zI_lit, zI_neg, zI_add, zI_sub, zI_mul, zI_n, ne_eq]) <;> (first | rw [zI_lt (by omega) (by omega)] | rw [zI_le (by omega) (by omega)] | rw [zI_eq (by omega) (by omega)]); try omega)) (b24 (A := True) (fun g => by omega))
theorem m_addP {np : Nat} {N : Nat → Int32} {P : Nat → Nat → Int} (e2 : N 2 = zI np) (hx : rowsIn 6 np (0 + 6) N P) (hP : okP np P) {m k b w : Int} (hm : (-2147483648 ≤ m ∧ m < 2147483648)) (hk : (-2147483648 ≤ k ∧ k < 2147483648)) (hb : (-2147483648 ≤ b ∧ b < 2147483648)) (hw : (-2147483648 ≤ w ∧ w < 2147483648)) {K : Int32 → (Nat → Int32) → Prop}
    (h1 : ¬ gP np P m k b w → K (-2) N) (h2 : gP np P m k b w → np = 12 → K (-4) N)
    (h3 : gP np P m k b w → np < 12 → ∀ N', N' 2 = zI ((np + 1 : Nat) : Int) → rowsIn 6 (np + 1) (0 + 6) N' (snoc np P (r6 m k b w 3 3)) → (∀ i, i ≠ 2 → ¬ (6 ≤ i ∧ i < 78) → N' i = N i) → K (zI np) N') : pX12_addPasser N (zI m) (zI k) (zI b) (zI w) K := by
  have h12 := hP.1
  have main : ∀ (e : Int) (E : Int32), E = zI e → (-2147483648 ≤ e ∧ e < 2147483648) → (e ≤ m ∧ m ≤ 99 ↔ (0 ≤ m ∧ m ≤ 99) ∧ (np = 0 ∨ P (np - 1) 0 ≤ m)) → pX12_addPasser_26 K (zI m) (zI k) (zI b) (zI w) (zI np) E N := fun e E eE he hi => by
    unfold pX12_addPasser_26
    refine m_wi (b := e) (c := 99) eE rfl hm he (by omega) (fun g1 => br1 ?_) (fun g1 => br0 (h1 (fun g => g1 (hi.2 ⟨g.1, g.2.1⟩))))
    have g12 := hi.1 g1
    refine m_wi (b := 0) (c := 5) rfl rfl hk (by omega) (by omega) (fun g3 => br1 ?_) (fun g3 => br0 (h1 (fun g => g3 g.2.2.1)))
    refine m_wi (b := 0) (c := 1) rfl rfl hb (by omega) (by omega) (fun g4 => br1 ?_) (fun g4 => br0 (h1 (fun g => g4 g.2.2.2.1)))
    refine m_wi (b := 0) (c := 30) rfl rfl hw (by omega) (by omega) (fun g5 => br1 ?_) (fun g5 => br0 (h1 (fun g => g5 g.2.2.2.2)))
    have g : gP np P m k b w := ⟨g12.1, g12.2, g3, g4, g5⟩
    by_cases q : np = 12
    · exact brT (by ((try simp only [zI_lit, zI_neg, zI_add, zI_sub, zI_mul, zI_n, ne_eq]) <;> (first | rw [zI_lt (by omega) (by omega)] | rw [zI_le (by omega) (by omega)] | rw [zI_eq (by omega) (by omega)]); try omega)) (h2 g q)
    · refine brF (by ((try simp only [zI_lit, zI_neg, zI_add, zI_sub, zI_mul, zI_n, ne_eq]) <;> (first | rw [zI_lt (by omega) (by omega)] | rw [zI_le (by omega) (by omega)] | rw [zI_eq (by omega) (by omega)]); try omega)) ⟨by ((try simp only [zI_lit, zI_neg, zI_add, zI_sub, zI_mul, zI_n]); rw [zI_in (by omega)]; omega), by ((try simp only [zI_lit, zI_neg, zI_add, zI_sub, zI_mul, zI_n]); rw [zI_in (by omega)]; omega), by ((try simp only [zI_lit, zI_neg, zI_add, zI_sub, zI_mul, zI_n]); rw [zI_in (by omega)]; omega), by ((try simp only [zI_lit, zI_neg, zI_add, zI_sub, zI_mul, zI_n]); rw [zI_in (by omega)]; omega), by ((try simp only [zI_lit, zI_neg, zI_add, zI_sub, zI_mul, zI_n]); rw [zI_in (by omega)]; omega), by ((try simp only [zI_lit, zI_neg, zI_add, zI_sub, zI_mul, zI_n]); rw [zI_in (by omega)]; omega), ?_⟩
      have i0 : ((6 : Int32) + 6 * zI np + 0).toNatClampNeg = 6 + 6 * np + 0 := by ((try simp only [zI_lit, zI_neg, zI_add, zI_sub, zI_mul, zI_n]); rw [zI_clamp (by omega)]; omega)
      have i1 : ((6 : Int32) + 6 * zI np + 1).toNatClampNeg = 6 + 6 * np + 1 := by ((try simp only [zI_lit, zI_neg, zI_add, zI_sub, zI_mul, zI_n]); rw [zI_clamp (by omega)]; omega)
      have i2 : ((6 : Int32) + 6 * zI np + 2).toNatClampNeg = 6 + 6 * np + 2 := by ((try simp only [zI_lit, zI_neg, zI_add, zI_sub, zI_mul, zI_n]); rw [zI_clamp (by omega)]; omega)
      have i3 : ((6 : Int32) + 6 * zI np + 3).toNatClampNeg = 6 + 6 * np + 3 := by ((try simp only [zI_lit, zI_neg, zI_add, zI_sub, zI_mul, zI_n]); rw [zI_clamp (by omega)]; omega)
      have i4 : ((6 : Int32) + 6 * zI np + 4).toNatClampNeg = 6 + 6 * np + 4 := by ((try simp only [zI_lit, zI_neg, zI_add, zI_sub, zI_mul, zI_n]); rw [zI_clamp (by omega)]; omega)
      have i5 : ((6 : Int32) + 6 * zI np + 5).toNatClampNeg = 6 + 6 * np + 5 := by ((try simp only [zI_lit, zI_neg, zI_add, zI_sub, zI_mul, zI_n]); rw [zI_clamp (by omega)]; omega)
      rw [i0, i1, i2, i3, i4, i5, c2]
      refine h3 g (by omega) _ ?_ (rowsIn.snoc hx (fun i a b => ?_) (fun j hj => ?_)) (fun i a b => ?_)
      · rw [upd_s]
        simp only [upd]
        rw [if_neg (by omega), if_neg (by omega), if_neg (by omega), if_neg (by omega), if_neg (by omega), if_neg (by omega), e2]
        ((try simp only [zI_lit, zI_neg, zI_add, zI_sub, zI_mul, zI_n]) <;> (first | rfl | (refine zI_eqI ?_; omega)))
      · simp only [upd]
        rw [if_neg (by omega), if_neg (by omega), if_neg (by omega), if_neg (by omega), if_neg (by omega), if_neg (by omega), if_neg (by omega)]
      · rw [upd_n _ _ (by omega)]
        rcases (show j = 0 ∨ j = 1 ∨ j = 2 ∨ j = 3 ∨ j = 4 ∨ j = 5 by omega) with rfl | rfl | rfl | rfl | rfl | rfl <;> (simp [upd, r6] <;> try rfl)
      · simp only [upd]
        rw [if_neg (by omega), if_neg (by omega), if_neg (by omega), if_neg (by omega), if_neg (by omega), if_neg (by omega), if_neg (by omega)]
  unfold pX12_addPasser
  rw [c2, e2]
  by_cases q : np = 0
  · exact brT (by rw [q]; rfl) (main 0 0 rfl (by omega) (by constructor <;> intro z <;> omega))
  · have o1 := (hP.2.1 (np - 1) (by omega)).1
    refine brF (by ((try simp only [zI_lit, zI_neg, zI_add, zI_sub, zI_mul, zI_n, ne_eq]) <;> (first | rw [zI_lt (by omega) (by omega)] | rw [zI_le (by omega) (by omega)] | rw [zI_eq (by omega) (by omega)]); try omega)) ?_
    have e1 : zI (np : Int) - 1 = zI ((np - 1 : Nat) : Int) := by ((try simp only [zI_lit, zI_neg, zI_add, zI_sub, zI_mul, zI_n]) <;> (first | rfl | (refine zI_eqI ?_; omega)))
    rw [e1]
    refine (m_of hx hP.1 (c := 0) (by omega) (by omega)).mpr ?_
    exact main _ _ rfl (by omega) (by constructor <;> intro z <;> omega)
theorem x_addB {nb : Nat} {cells : Nat → Int32} {B : Nat → Nat → Int} (hx : rowsIn 2 nb 0 cells B) (hB : okB nb B) {m j : Int} (hm : (-2147483648 ≤ m ∧ m < 2147483648)) (hj : (-2147483648 ≤ j ∧ j < 2147483648)) {K : Int32 → Int32 → (Nat → Int32) → Prop}
    (h1 : ¬ gB m j → K (-2) (zI nb) cells) (h2 : gB m j → nb = 4 → K (-4) (zI nb) cells)
    (h3 : gB m j → nb < 4 → ∀ c', rowsIn 2 (nb + 1) 0 c' (snoc nb B (r6 m j 0 0 0 0)) → K (zI nb) (zI ((nb + 1 : Nat) : Int)) c') : pX5_addBeast (zI nb) cells (zI m) (zI j) K := by
  have h12 := hB.1
  unfold pX5_addBeast
  refine x_mi hm (fun g1 => br1 ?_) (fun g1 => br0 (h1 (fun g => g1 g.1)))
  refine x_hi hj (fun g2 => br1 ?_) (fun g2 => br0 (h1 (fun g => g2 g.2)))
  have g : gB m j := ⟨g1, g2⟩
  refine x_op (mo := 4) rfl (by omega) (by omega) (fun q => ?_) (fun q => brT rfl (h2 g (by omega)))
  refine brF (by ((try simp only [zI_lit, zI_neg, zI_add, zI_sub, zI_mul, zI_n, ne_eq]) <;> (first | rw [zI_lt (by omega) (by omega)] | rw [zI_le (by omega) (by omega)] | rw [zI_eq (by omega) (by omega)]); try omega)) ?_
  refine x_pt (w := 2) (c := 0) rfl rfl (by omega) (by omega) ?_
  refine x_pt (w := 2) (c := 1) rfl rfl (by omega) (by omega) ?_
  refine h3 g q _ (rowsIn.snoc hx (fun i a b => ?_) (fun j hj => ?_))
  · simp only [upd]
    rw [if_neg (by omega), if_neg (by omega)]
  · rcases (show j = 0 ∨ j = 1 by omega) with rfl | rfl <;> (simp [upd, r6] <;> try rfl)
theorem m_addB {nb : Nat} {N : Nat → Int32} {B : Nat → Nat → Int} (e2 : N 3 = zI nb) (hx : rowsIn 2 nb (0 + 78) N B) (hB : okB nb B) {m j : Int} (hm : (-2147483648 ≤ m ∧ m < 2147483648)) (hj : (-2147483648 ≤ j ∧ j < 2147483648)) {K : Int32 → (Nat → Int32) → Prop}
    (h1 : ¬ gB m j → K (-2) N) (h2 : gB m j → nb = 4 → K (-4) N)
    (h3 : gB m j → nb < 4 → ∀ N', N' 3 = zI ((nb + 1 : Nat) : Int) → rowsIn 2 (nb + 1) (0 + 78) N' (snoc nb B (r6 m j 0 0 0 0)) → (∀ i, i ≠ 3 → ¬ (78 ≤ i ∧ i < 86) → N' i = N i) → K (zI nb) N') : pX12_addBeast N (zI m) (zI j) K := by
  have h12 := hB.1
  unfold pX12_addBeast
  rw [c3, e2]
  refine m_wi (b := 0) (c := 99) rfl rfl hm (by omega) (by omega) (fun g1 => br1 ?_) (fun g1 => br0 (h1 (fun g => g1 g.1)))
  refine m_wi (b := 0) (c := 30) rfl rfl hj (by omega) (by omega) (fun g2 => br1 ?_) (fun g2 => br0 (h1 (fun g => g2 g.2)))
  have g : gB m j := ⟨g1, g2⟩
  by_cases q : nb = 4
  · exact brT (by ((try simp only [zI_lit, zI_neg, zI_add, zI_sub, zI_mul, zI_n, ne_eq]) <;> (first | rw [zI_lt (by omega) (by omega)] | rw [zI_le (by omega) (by omega)] | rw [zI_eq (by omega) (by omega)]); try omega)) (h2 g q)
  · refine brF (by ((try simp only [zI_lit, zI_neg, zI_add, zI_sub, zI_mul, zI_n, ne_eq]) <;> (first | rw [zI_lt (by omega) (by omega)] | rw [zI_le (by omega) (by omega)] | rw [zI_eq (by omega) (by omega)]); try omega)) ⟨by ((try simp only [zI_lit, zI_neg, zI_add, zI_sub, zI_mul, zI_n]); rw [zI_in (by omega)]; omega), by ((try simp only [zI_lit, zI_neg, zI_add, zI_sub, zI_mul, zI_n]); rw [zI_in (by omega)]; omega), ?_⟩
    have i0 : ((78 : Int32) + 2 * zI nb).toNatClampNeg = 78 + 2 * nb := by ((try simp only [zI_lit, zI_neg, zI_add, zI_sub, zI_mul, zI_n]); rw [zI_clamp (by omega)]; omega)
    have i1 : ((78 : Int32) + 2 * zI nb + 1).toNatClampNeg = 78 + 2 * nb + 1 := by ((try simp only [zI_lit, zI_neg, zI_add, zI_sub, zI_mul, zI_n]); rw [zI_clamp (by omega)]; omega)
    rw [i0, i1]
    refine h3 g (by omega) _ ?_ (rowsIn.snoc hx (fun i a b => ?_) (fun j hj => ?_)) (fun i a b => ?_)
    · rw [upd_s]
      simp only [upd]
      rw [if_neg (by omega), if_neg (by omega), e2]
      ((try simp only [zI_lit, zI_neg, zI_add, zI_sub, zI_mul, zI_n]) <;> (first | rfl | (refine zI_eqI ?_; omega)))
    · simp only [upd]
      rw [if_neg (by omega), if_neg (by omega), if_neg (by omega)]
    · rw [upd_n _ _ (by omega)]
      rcases (show j = 0 ∨ j = 1 by omega) with rfl | rfl <;> (simp [upd, r6] <;> try rfl)
    · simp only [upd]
      rw [if_neg (by omega), if_neg (by omega), if_neg (by omega)]
theorem x_addC {nc : Nat} {cells : Nat → Int32} {C : Nat → Nat → Int} (hx : rowsIn 3 nc 0 cells C) (hC : okC nc C) {m a b : Int} (hm : (-2147483648 ≤ m ∧ m < 2147483648)) (ha : (-2147483648 ≤ a ∧ a < 2147483648)) (hb : (-2147483648 ≤ b ∧ b < 2147483648)) {K : Int32 → Int32 → (Nat → Int32) → Prop}
    (h1 : ¬ gC nc C m a b → K (-2) (zI nc) cells) (h2 : gC nc C m a b → nc = 5 → K (-4) (zI nc) cells)
    (h3 : gC nc C m a b → nc < 5 → ∀ c', rowsIn 3 (nc + 1) 0 c' (snoc nc C (r6 m a b 0 0 0)) → K (zI nc) (zI ((nc + 1 : Nat) : Int)) c') : pX5_addCheck (zI nc) cells (zI m) (zI a) (zI b) K := by
  have h12 := hC.1
  have b24 : ∀ {A : Prop}, ¬ gC nc C m a b → pX5_addCheck_23 K (zI m) (zI a) (zI b) (zI nc) cells := fun g => by
    unfold pX5_addCheck_23 pX5_addCheck_24
    exact br0 (h1 g)
  unfold pX5_addCheck
  refine x_mi hm (fun g1 => br1 ?_) (fun g1 => br0 (b24 (A := True) (fun g => g1 g.1)))
  have main : (nc = 0 ∨ C (nc - 1) 0 < m) → pX5_addCheck_24 K (zI m) (zI a) (zI b) 1 (zI nc) cells := fun g2 => by
    unfold pX5_addCheck_24
    refine br1 (x_hi ha (fun g3 => br1 ?_) (fun g3 => br0 (h1 (fun g => g3 g.2.2.1))))
    refine x_hi hb (fun g4 => br1 ?_) (fun g4 => br0 (h1 (fun g => g4 g.2.2.2.1)))
    by_cases g5 : a ≤ b
    · have g : gC nc C m a b := ⟨g1, g2, g3, g4, g5⟩
      refine brT (by ((try simp only [zI_lit, zI_neg, zI_add, zI_sub, zI_mul, zI_n, ne_eq]) <;> (first | rw [zI_lt (by omega) (by omega)] | rw [zI_le (by omega) (by omega)] | rw [zI_eq (by omega) (by omega)]); try omega)) (x_op (mo := 5) rfl (by omega) (by omega) (fun q => ?_) (fun q => brT rfl (h2 g (by omega))))
      refine brF (by ((try simp only [zI_lit, zI_neg, zI_add, zI_sub, zI_mul, zI_n, ne_eq]) <;> (first | rw [zI_lt (by omega) (by omega)] | rw [zI_le (by omega) (by omega)] | rw [zI_eq (by omega) (by omega)]); try omega)) ?_
      refine x_pt (w := 3) (c := 0) rfl rfl (by omega) (by omega) ?_
      refine x_pt (w := 3) (c := 1) rfl rfl (by omega) (by omega) ?_
      refine x_pt (w := 3) (c := 2) rfl rfl (by omega) (by omega) ?_
      refine h3 g q _ (rowsIn.snoc hx (fun i a b => ?_) (fun j hj => ?_))
      · simp only [upd]
        rw [if_neg (by omega), if_neg (by omega), if_neg (by omega)]
      · rcases (show j = 0 ∨ j = 1 ∨ j = 2 by omega) with rfl | rfl | rfl <;> (simp [upd, r6] <;> try rfl)
    · exact brF (by ((try simp only [zI_lit, zI_neg, zI_add, zI_sub, zI_mul, zI_n, ne_eq]) <;> (first | rw [zI_lt (by omega) (by omega)] | rw [zI_le (by omega) (by omega)] | rw [zI_eq (by omega) (by omega)]); try omega)) (h1 (fun g => g5 g.2.2.2.2))
  refine x_la (w := 3) hx rfl (by omega) (by omega) (by omega) (fun q => ?_) (fun q => ?_) (by omega)
  · exact brF (by ((try simp only [zI_lit, zI_neg, zI_add, zI_sub, zI_mul, zI_n, ne_eq]) <;> (first | rw [zI_lt (by omega) (by omega)] | rw [zI_le (by omega) (by omega)] | rw [zI_eq (by omega) (by omega)]); try omega)) (main (Or.inl q))
  · have o1 := (hC.2.1 (nc - 1) (by omega)).1
    by_cases g2 : C (nc - 1) 0 < m
    · exact brF (by ((try simp only [zI_lit, zI_neg, zI_add, zI_sub, zI_mul, zI_n, ne_eq]) <;> (first | rw [zI_lt (by omega) (by omega)] | rw [zI_le (by omega) (by omega)] | rw [zI_eq (by omega) (by omega)]); try omega)) (main (Or.inr g2))
    · exact brT (by ((try simp only [zI_lit, zI_neg, zI_add, zI_sub, zI_mul, zI_n, ne_eq]) <;> (first | rw [zI_lt (by omega) (by omega)] | rw [zI_le (by omega) (by omega)] | rw [zI_eq (by omega) (by omega)]); try omega)) (b24 (A := True) (fun g => by omega))
theorem m_addC {nc : Nat} {N : Nat → Int32} {C : Nat → Nat → Int} (e2 : N 4 = zI nc) (hx : rowsIn 3 nc (0 + 86) N C) (hC : okC nc C) {m a b : Int} (hm : (-2147483648 ≤ m ∧ m < 2147483648)) (ha : (-2147483648 ≤ a ∧ a < 2147483648)) (hb : (-2147483648 ≤ b ∧ b < 2147483648)) {K : Int32 → (Nat → Int32) → Prop}
    (h1 : ¬ gC nc C m a b → K (-2) N) (h2 : gC nc C m a b → nc = 5 → K (-4) N)
    (h3 : gC nc C m a b → nc < 5 → ∀ N', N' 4 = zI ((nc + 1 : Nat) : Int) → rowsIn 3 (nc + 1) (0 + 86) N' (snoc nc C (r6 m a b 0 0 0)) → (∀ i, i ≠ 4 → ¬ (86 ≤ i ∧ i < 101) → N' i = N i) → K (zI nc) N') : pX12_addCheck N (zI m) (zI a) (zI b) K := by
  have h12 := hC.1
  have main : ∀ (e : Int) (E : Int32), E = zI e → (-2147483648 ≤ e ∧ e < 2147483648) → (e ≤ m ∧ m ≤ 99 ↔ (0 ≤ m ∧ m ≤ 99) ∧ (nc = 0 ∨ C (nc - 1) 0 < m)) → pX12_addCheck_33 K (zI m) (zI a) (zI b) (zI nc) E N := fun e E eE he hi => by
    unfold pX12_addCheck_33
    refine m_wi (b := e) (c := 99) eE rfl hm he (by omega) (fun g1 => br1 ?_) (fun g1 => br0 (h1 (fun g => g1 (hi.2 ⟨g.1, g.2.1⟩))))
    have g12 := hi.1 g1
    refine m_wi (b := 0) (c := 30) rfl rfl ha (by omega) (by omega) (fun g3 => br1 ?_) (fun g3 => br0 (h1 (fun g => g3 g.2.2.1)))
    refine m_wi (b := a) (c := 30) rfl rfl hb (by omega) (by omega) (fun g4 => br1 ?_) (fun g4 => br0 (h1 (fun g => g4 ⟨g.2.2.2.2, g.2.2.2.1.2⟩)))
    have g : gC nc C m a b := ⟨g12.1, g12.2, g3, by omega, by omega⟩
    by_cases q : nc = 5
    · exact brT (by ((try simp only [zI_lit, zI_neg, zI_add, zI_sub, zI_mul, zI_n, ne_eq]) <;> (first | rw [zI_lt (by omega) (by omega)] | rw [zI_le (by omega) (by omega)] | rw [zI_eq (by omega) (by omega)]); try omega)) (h2 g q)
    · refine brF (by ((try simp only [zI_lit, zI_neg, zI_add, zI_sub, zI_mul, zI_n, ne_eq]) <;> (first | rw [zI_lt (by omega) (by omega)] | rw [zI_le (by omega) (by omega)] | rw [zI_eq (by omega) (by omega)]); try omega)) ⟨by ((try simp only [zI_lit, zI_neg, zI_add, zI_sub, zI_mul, zI_n]); rw [zI_in (by omega)]; omega), by ((try simp only [zI_lit, zI_neg, zI_add, zI_sub, zI_mul, zI_n]); rw [zI_in (by omega)]; omega), by ((try simp only [zI_lit, zI_neg, zI_add, zI_sub, zI_mul, zI_n]); rw [zI_in (by omega)]; omega), ?_⟩
      have i0 : ((86 : Int32) + 3 * zI nc).toNatClampNeg = 86 + 3 * nc := by ((try simp only [zI_lit, zI_neg, zI_add, zI_sub, zI_mul, zI_n]); rw [zI_clamp (by omega)]; omega)
      have i1 : ((86 : Int32) + 3 * zI nc + 1).toNatClampNeg = 86 + 3 * nc + 1 := by ((try simp only [zI_lit, zI_neg, zI_add, zI_sub, zI_mul, zI_n]); rw [zI_clamp (by omega)]; omega)
      have i2 : ((86 : Int32) + 3 * zI nc + 2).toNatClampNeg = 86 + 3 * nc + 2 := by ((try simp only [zI_lit, zI_neg, zI_add, zI_sub, zI_mul, zI_n]); rw [zI_clamp (by omega)]; omega)
      rw [i0, i1, i2, c4]
      refine h3 g (by omega) _ ?_ (rowsIn.snoc hx (fun i a b => ?_) (fun j hj => ?_)) (fun i a b => ?_)
      · rw [upd_s]
        simp only [upd]
        rw [if_neg (by omega), if_neg (by omega), if_neg (by omega), e2]
        ((try simp only [zI_lit, zI_neg, zI_add, zI_sub, zI_mul, zI_n]) <;> (first | rfl | (refine zI_eqI ?_; omega)))
      · simp only [upd]
        rw [if_neg (by omega), if_neg (by omega), if_neg (by omega), if_neg (by omega)]
      · rw [upd_n _ _ (by omega)]
        rcases (show j = 0 ∨ j = 1 ∨ j = 2 by omega) with rfl | rfl | rfl <;> (simp [upd, r6] <;> try rfl)
      · simp only [upd]
        rw [if_neg (by omega), if_neg (by omega), if_neg (by omega), if_neg (by omega)]
  unfold pX12_addCheck
  rw [c4, e2]
  by_cases q : nc = 0
  · exact brT (by rw [q]; rfl) (main 0 0 rfl (by omega) (by constructor <;> intro z <;> omega))
  · have o1 := (hC.2.1 (nc - 1) (by omega)).1
    refine brF (by ((try simp only [zI_lit, zI_neg, zI_add, zI_sub, zI_mul, zI_n, ne_eq]) <;> (first | rw [zI_lt (by omega) (by omega)] | rw [zI_le (by omega) (by omega)] | rw [zI_eq (by omega) (by omega)]); try omega)) ⟨by ((try simp only [zI_lit, zI_neg, zI_add, zI_sub, zI_mul, zI_n]); rw [zI_in (by omega)]; omega), ?_⟩
    have e1 : ((86 : Int32) + 3 * zI nc - 3).toNatClampNeg = 0 + 86 + 3 * (nc - 1) + 0 := by ((try simp only [zI_lit, zI_neg, zI_add, zI_sub, zI_mul, zI_n]); rw [zI_clamp (by omega)]; omega)
    rw [e1, hx (nc - 1) 0 (by omega) (by omega)]
    exact main (C (nc - 1) 0 + 1) _ (by ((try simp only [zI_lit, zI_neg, zI_add, zI_sub, zI_mul, zI_n]) <;> (first | rfl | (refine zI_eqI ?_; omega)))) (by omega) (by constructor <;> intro z <;> omega)
theorem x_addL {nl : Nat} {cells : Nat → Int32} {L : Nat → Nat → Int} (hx : rowsIn 2 nl 0 cells L) (hL : okL nl L) {m j : Int} (hm : (-2147483648 ≤ m ∧ m < 2147483648)) (hj : (-2147483648 ≤ j ∧ j < 2147483648)) {K : Int32 → Int32 → (Nat → Int32) → Prop}
    (h1 : ¬ gL nl L m j → K (-2) (zI nl) cells) (h2 : gL nl L m j → nl = 6 → K (-4) (zI nl) cells)
    (h3 : gL nl L m j → nl < 6 → ∀ c', rowsIn 2 (nl + 1) 0 c' (snoc nl L (r6 m j 0 0 0 0)) → K (zI nl) (zI ((nl + 1 : Nat) : Int)) c') : pX5_addLook (zI nl) cells (zI m) (zI j) K := by
  have h12 := hL.1
  have b24 : ∀ {A : Prop}, ¬ gL nl L m j → pX5_addLook_23 K (zI m) (zI j) (zI nl) cells := fun g => by
    unfold pX5_addLook_23 pX5_addLook_24
    exact br0 (h1 g)
  unfold pX5_addLook
  refine x_mi hm (fun g1 => br1 ?_) (fun g1 => br0 (b24 (A := True) (fun g => g1 g.1)))
  have main : (nl = 0 ∨ L (nl - 1) 0 ≤ m) → pX5_addLook_24 K (zI m) (zI j) 1 (zI nl) cells := fun g2 => by
    unfold pX5_addLook_24
    refine br1 (x_hi hj (fun g3 => br1 ?_) (fun g3 => br0 (h1 (fun g => g3 g.2.2))))
    have g : gL nl L m j := ⟨g1, g2, g3⟩
    refine x_op (mo := 6) rfl (by omega) (by omega) (fun q => ?_) (fun q => brT rfl (h2 g (by omega)))
    refine brF (by ((try simp only [zI_lit, zI_neg, zI_add, zI_sub, zI_mul, zI_n, ne_eq]) <;> (first | rw [zI_lt (by omega) (by omega)] | rw [zI_le (by omega) (by omega)] | rw [zI_eq (by omega) (by omega)]); try omega)) ?_
    refine x_pt (w := 2) (c := 0) rfl rfl (by omega) (by omega) ?_
    refine x_pt (w := 2) (c := 1) rfl rfl (by omega) (by omega) ?_
    refine h3 g q _ (rowsIn.snoc hx (fun i a b => ?_) (fun j hj => ?_))
    · simp only [upd]
      rw [if_neg (by omega), if_neg (by omega)]
    · rcases (show j = 0 ∨ j = 1 by omega) with rfl | rfl <;> (simp [upd, r6] <;> try rfl)
  refine x_la (w := 2) hx rfl (by omega) (by omega) (by omega) (fun q => ?_) (fun q => ?_) (by omega)
  · exact brF (by ((try simp only [zI_lit, zI_neg, zI_add, zI_sub, zI_mul, zI_n, ne_eq]) <;> (first | rw [zI_lt (by omega) (by omega)] | rw [zI_le (by omega) (by omega)] | rw [zI_eq (by omega) (by omega)]); try omega)) (main (Or.inl q))
  · have o1 := (hL.2.1 (nl - 1) (by omega)).1
    by_cases g2 : L (nl - 1) 0 ≤ m
    · exact brF (by ((try simp only [zI_lit, zI_neg, zI_add, zI_sub, zI_mul, zI_n, ne_eq]) <;> (first | rw [zI_lt (by omega) (by omega)] | rw [zI_le (by omega) (by omega)] | rw [zI_eq (by omega) (by omega)]); try omega)) (main (Or.inr g2))
    · exact brT (by ((try simp only [zI_lit, zI_neg, zI_add, zI_sub, zI_mul, zI_n, ne_eq]) <;> (first | rw [zI_lt (by omega) (by omega)] | rw [zI_le (by omega) (by omega)] | rw [zI_eq (by omega) (by omega)]); try omega)) (b24 (A := True) (fun g => by omega))
theorem m_addL {nl : Nat} {N : Nat → Int32} {L : Nat → Nat → Int} (e2 : N 5 = zI nl) (hx : rowsIn 2 nl (0 + 101) N L) (hL : okL nl L) {m j : Int} (hm : (-2147483648 ≤ m ∧ m < 2147483648)) (hj : (-2147483648 ≤ j ∧ j < 2147483648)) {K : Int32 → (Nat → Int32) → Prop}
    (h1 : ¬ gL nl L m j → K (-2) N) (h2 : gL nl L m j → nl = 6 → K (-4) N)
    (h3 : gL nl L m j → nl < 6 → ∀ N', N' 5 = zI ((nl + 1 : Nat) : Int) → rowsIn 2 (nl + 1) (0 + 101) N' (snoc nl L (r6 m j 0 0 0 0)) → (∀ i, i ≠ 5 → ¬ (101 ≤ i ∧ i < 113) → N' i = N i) → K (zI nl) N') : pX12_addLook N (zI m) (zI j) K := by
  have h12 := hL.1
  have main : ∀ (e : Int) (E : Int32), E = zI e → (-2147483648 ≤ e ∧ e < 2147483648) → (e ≤ m ∧ m ≤ 99 ↔ (0 ≤ m ∧ m ≤ 99) ∧ (nl = 0 ∨ L (nl - 1) 0 ≤ m)) → pX12_addLook_28 K (zI m) (zI j) (zI nl) E N := fun e E eE he hi => by
    unfold pX12_addLook_28
    refine m_wi (b := e) (c := 99) eE rfl hm he (by omega) (fun g1 => br1 ?_) (fun g1 => br0 (h1 (fun g => g1 (hi.2 ⟨g.1, g.2.1⟩))))
    have g12 := hi.1 g1
    refine m_wi (b := 0) (c := 30) rfl rfl hj (by omega) (by omega) (fun g3 => br1 ?_) (fun g3 => br0 (h1 (fun g => g3 g.2.2)))
    have g : gL nl L m j := ⟨g12.1, g12.2, g3⟩
    by_cases q : nl = 6
    · exact brT (by ((try simp only [zI_lit, zI_neg, zI_add, zI_sub, zI_mul, zI_n, ne_eq]) <;> (first | rw [zI_lt (by omega) (by omega)] | rw [zI_le (by omega) (by omega)] | rw [zI_eq (by omega) (by omega)]); try omega)) (h2 g q)
    · refine brF (by ((try simp only [zI_lit, zI_neg, zI_add, zI_sub, zI_mul, zI_n, ne_eq]) <;> (first | rw [zI_lt (by omega) (by omega)] | rw [zI_le (by omega) (by omega)] | rw [zI_eq (by omega) (by omega)]); try omega)) ⟨by ((try simp only [zI_lit, zI_neg, zI_add, zI_sub, zI_mul, zI_n]); rw [zI_in (by omega)]; omega), by ((try simp only [zI_lit, zI_neg, zI_add, zI_sub, zI_mul, zI_n]); rw [zI_in (by omega)]; omega), ?_⟩
      have i0 : ((101 : Int32) + 2 * zI nl).toNatClampNeg = 101 + 2 * nl := by ((try simp only [zI_lit, zI_neg, zI_add, zI_sub, zI_mul, zI_n]); rw [zI_clamp (by omega)]; omega)
      have i1 : ((101 : Int32) + 2 * zI nl + 1).toNatClampNeg = 101 + 2 * nl + 1 := by ((try simp only [zI_lit, zI_neg, zI_add, zI_sub, zI_mul, zI_n]); rw [zI_clamp (by omega)]; omega)
      rw [i0, i1, c5]
      refine h3 g (by omega) _ ?_ (rowsIn.snoc hx (fun i a b => ?_) (fun j hj => ?_)) (fun i a b => ?_)
      · rw [upd_s]
        simp only [upd]
        rw [if_neg (by omega), if_neg (by omega), e2]
        ((try simp only [zI_lit, zI_neg, zI_add, zI_sub, zI_mul, zI_n]) <;> (first | rfl | (refine zI_eqI ?_; omega)))
      · simp only [upd]
        rw [if_neg (by omega), if_neg (by omega), if_neg (by omega)]
      · rw [upd_n _ _ (by omega)]
        rcases (show j = 0 ∨ j = 1 by omega) with rfl | rfl <;> (simp [upd, r6] <;> try rfl)
      · simp only [upd]
        rw [if_neg (by omega), if_neg (by omega), if_neg (by omega)]
  unfold pX12_addLook
  rw [c5, e2]
  by_cases q : nl = 0
  · exact brT (by rw [q]; rfl) (main 0 0 rfl (by omega) (by constructor <;> intro z <;> omega))
  · have o1 := (hL.2.1 (nl - 1) (by omega)).1
    refine brF (by ((try simp only [zI_lit, zI_neg, zI_add, zI_sub, zI_mul, zI_n, ne_eq]) <;> (first | rw [zI_lt (by omega) (by omega)] | rw [zI_le (by omega) (by omega)] | rw [zI_eq (by omega) (by omega)]); try omega)) ⟨by ((try simp only [zI_lit, zI_neg, zI_add, zI_sub, zI_mul, zI_n]); rw [zI_in (by omega)]; omega), ?_⟩
    have e1 : ((101 : Int32) + 2 * zI nl - 2).toNatClampNeg = 0 + 101 + 2 * (nl - 1) + 0 := by ((try simp only [zI_lit, zI_neg, zI_add, zI_sub, zI_mul, zI_n]); rw [zI_clamp (by omega)]; omega)
    rw [e1, hx (nl - 1) 0 (by omega) (by omega)]
    exact main _ _ rfl (by omega) (by constructor <;> intro z <;> omega)
