/-! the odds -/
def pO (W : Nat → Int) (R : Nat → Int) : Nat → Int := sc W (R 4) (10 - R 4 - R 5) (R 5) (tkF true) (lyF true) 31
theorem x_pbo {np : Nat} {cells : Nat → Int32} {P : Nat → Nat → Int} (hx : rowsIn 6 np 0 cells P) (hP : okP np P) {i : Nat} (hi : i < np) {A B : Nat → Int64} {W : Nat → Int} (hA : lr A W) {k : (Nat → Int64) → (Nat → Int64) → Prop} (hk : ∀ A' B' : Nat → Int64, lr A' (pO W (P i)) → k A' B') : pX11_passByOdds cells A B (zI i) k := by
  obtain ⟨o1, o2, o3, o4, o5, o6, o7⟩ := hP.2.1 i hi
  unfold pX11_passByOdds
  refine x_p hx hP.1 hi 4 rfl (by omega) (x_p hx hP.1 hi 5 rfl (by omega) ?_)
  rw [show (10 : Int32) = zI 10 from rfl, zI_sub, zI_sub]
  exact x_pass (by omega) (by omega) (by omega) true (fun z => absurd z (by decide)) (fun _ => rfl) hA hk
theorem lr_u {A : Nat → Int64} {W : Nat → Int} (h : lr A W) {x : Nat} (hx : x < 31) {z : Int} (ez : z = (x : Int)) (v : Int) : lr (vp_updL A x (A x + zL v)) (fun q => W q + if (q : Int) = z then v else 0) := fun q hq => by
  show vp_updL A x (A x + zL v) q = zL (W q + if (q : Int) = z then v else 0)
  by_cases c : (q : Int) = z
  · rw [if_pos c, show q = x by omega, updL_s, h x hx, zL_add]
  · rw [if_neg c, updL_n _ _ (by omega), Int.add_zero]; exact h q hq
theorem lr_c {A : Nat → Int64} {W V : Nat → Int} (h : lr A W) (e : ∀ q : Nat, q < 31 → W q = V q) : lr A V := fun q hq => by rw [← e q hq]; exact h q hq
theorem m_go110 {ways B : Nat → Int64} {W V : Nat → Int} (hA : lr ways W) (hB : lr B V) {x : Nat} (hx : x < 31) {l : Int} (hl : 0 ≤ l ∧ l ≤ 10) (hxl : 0 < l → x < 30) {X : Int32} {kb : Int32 → Int32 → (Nat → Int64) → (Nat → Int64) → Prop} (hk : ∀ B' : Nat → Int64, lr B' (fun q => V q + if (q : Int) = (x : Int) + 1 then W x * l else 0) → kb X (zI ((x + 1 : Nat) : Int)) ways B') : pX12_goOdds_110 kb X (zI x) (zI l) ways B := by
  have e1 : zI (x : Int) + 1 = zI ((x + 1 : Nat) : Int) := by ((try simp only [zI_lit, zI_neg, zI_add, zI_sub, zI_mul, zI_n]) <;> (first | rfl | (refine zI_eqI ?_; omega)))
  unfold pX12_goOdds_110
  rw [e1]
  by_cases c : 0 < l
  · have e3 : (zI (x : Int)).toNatClampNeg = x := by ((try simp only [zI_lit, zI_neg, zI_add, zI_sub, zI_mul, zI_n]); rw [zI_clamp (by omega)]; omega)
    have e4 : (zI ((x + 1 : Nat) : Int)).toNatClampNeg = x + 1 := by ((try simp only [zI_lit, zI_neg, zI_add, zI_sub, zI_mul, zI_n]); rw [zI_clamp (by omega)]; omega)
    have := hxl c
    refine brF (by ((try simp only [zI_lit, zI_neg, zI_add, zI_sub, zI_mul, zI_n, ne_eq]) <;> (first | rw [zI_lt (by omega) (by omega)] | rw [zI_le (by omega) (by omega)] | rw [zI_eq (by omega) (by omega)]); try omega)) ⟨by ((try simp only [zI_lit, zI_neg, zI_add, zI_sub, zI_mul, zI_n]); rw [zI_in (by omega)]; omega), by ((try simp only [zI_lit, zI_neg, zI_add, zI_sub, zI_mul, zI_n]); rw [zI_in (by omega)]; omega), by ((try simp only [zI_lit, zI_neg, zI_add, zI_sub, zI_mul, zI_n]); rw [zI_in (by omega)]; omega), ?_⟩
    rw [e3, e4, hA x hx, zI_i64 (by omega), zL_mul]
    exact hk _ (lr_u hB (by omega) (by omega) _)
  · refine brT (by ((try simp only [zI_lit, zI_neg, zI_add, zI_sub, zI_mul, zI_n, ne_eq]) <;> (first | rw [zI_lt (by omega) (by omega)] | rw [zI_le (by omega) (by omega)] | rw [zI_eq (by omega) (by omega)]); try omega)) (hk B (lr_c hB (fun q hq => ?_)))
    rw [show l = 0 by omega, Int.mul_zero, ite_self, Int.add_zero]
theorem m_go60 {ways B : Nat → Int64} {W V : Nat → Int} (hA : lr ways W) (hB : lr B V) {x : Nat} (hx : x < 31) {t l : Int} (ht : 0 ≤ t ∧ t ≤ 10) (hl : 0 ≤ l ∧ l ≤ 10) (hxt : 0 < t → 0 < x) (hxl : 0 < l → x < 30) {X : Int32} {kb : Int32 → Int32 → (Nat → Int64) → (Nat → Int64) → Prop} (hk : ∀ B' : Nat → Int64, lr B' (fun q => V q + (if (q : Int) = (x : Int) then W x * (10 - t - l) else 0) + (if (q : Int) = (x : Int) - 1 then W x * t else 0) + if (q : Int) = (x : Int) + 1 then W x * l else 0) → kb X (zI ((x + 1 : Nat) : Int)) ways B') : pX12_goOdds_60 kb X (zI x) (zI t) (zI l) ways B := by
  have e3 : (zI (x : Int)).toNatClampNeg = x := by ((try simp only [zI_lit, zI_neg, zI_add, zI_sub, zI_mul, zI_n]); rw [zI_clamp (by omega)]; omega)
  unfold pX12_goOdds_60
  rw [show (10 : Int32) = zI 10 from rfl, zI_sub, zI_sub, e3, hA x hx, zI_i64 (by omega), zL_mul]
  have h1 := lr_u hB hx (z := (x : Int)) rfl (W x * (10 - t - l))
  refine ⟨by ((try simp only [zI_lit, zI_neg, zI_add, zI_sub, zI_mul, zI_n]); rw [zI_in (by omega)]; omega), by ((try simp only [zI_lit, zI_neg, zI_add, zI_sub, zI_mul, zI_n]); rw [zI_in (by omega)]; omega), by ((try simp only [zI_lit, zI_neg, zI_add, zI_sub, zI_mul, zI_n]); rw [zI_in (by omega)]; omega), ?_⟩
  by_cases c : 0 < t
  · have := hxt c
    have e4 : (zI (x : Int) - 1).toNatClampNeg = x - 1 := by ((try simp only [zI_lit, zI_neg, zI_add, zI_sub, zI_mul, zI_n]); rw [zI_clamp (by omega)]; omega)
    refine brF (by ((try simp only [zI_lit, zI_neg, zI_add, zI_sub, zI_mul, zI_n, ne_eq]) <;> (first | rw [zI_lt (by omega) (by omega)] | rw [zI_le (by omega) (by omega)] | rw [zI_eq (by omega) (by omega)]); try omega)) ⟨by ((try simp only [zI_lit, zI_neg, zI_add, zI_sub, zI_mul, zI_n]); rw [zI_in (by omega)]; omega), by ((try simp only [zI_lit, zI_neg, zI_add, zI_sub, zI_mul, zI_n]); rw [zI_in (by omega)]; omega), by ((try simp only [zI_lit, zI_neg, zI_add, zI_sub, zI_mul, zI_n]); rw [zI_in (by omega)]; omega), ?_⟩
    rw [e4, zI_i64 (by omega), zL_mul]
    exact m_go110 hA (lr_u h1 (z := (x : Int) - 1) (by omega) (by omega) (W x * t)) hx hl hxl hk
  · refine brT (by ((try simp only [zI_lit, zI_neg, zI_add, zI_sub, zI_mul, zI_n, ne_eq]) <;> (first | rw [zI_lt (by omega) (by omega)] | rw [zI_le (by omega) (by omega)] | rw [zI_eq (by omega) (by omega)]); try omega)) (m_go110 hA (lr_c h1 (V := fun q => V q + (if (q : Int) = (x : Int) then W x * (10 - t - l) else 0) + (if (q : Int) = (x : Int) - 1 then W x * t else 0)) (fun q hq => ?_)) hx hl hxl hk)
    show V q + (if (q : Int) = (x : Int) then W x * (10 - t - l) else 0) = V q + (if (q : Int) = (x : Int) then W x * (10 - t - l) else 0) + (if (q : Int) = (x : Int) - 1 then W x * t else 0)
    rw [show t = 0 by omega, Int.mul_zero, ite_self, Int.add_zero]
theorem ct_go {W : Nat → Int} {t l : Int} {x q : Nat} (hx : x < 31) {t' l' : Int} (et : t' = if 0 < x then t else 0) (el : l' = if x < 30 then l else 0) : (if (q : Int) = (x : Int) then W x * (10 - t' - l') else 0) + (if (q : Int) = (x : Int) - 1 then W x * t' else 0) + (if (q : Int) = (x : Int) + 1 then W x * l' else 0) = ct W t (10 - t - l) l (tkF true) (lyF true) x q := by
  unfold ct
  have ea : tkF true x = if 0 < x then (x : Int) - 1 else (x : Int) := by
    unfold tkF
    by_cases c : 0 < x
    · rw [if_pos (Or.inl c), if_pos c]
    · rw [if_neg (by intro z; rcases z with z | z; exact c z; exact absurd z (by decide)), if_neg c]
  have eb : lyF true x = if x < 30 then (x : Int) + 1 else (x : Int) := by
    unfold lyF
    by_cases c : x < 30
    · rw [if_pos (Or.inl c), if_pos c]
    · rw [if_neg (by intro z; rcases z with z | z; exact c z; exact absurd z (by decide)), if_neg c]
  rw [ea, eb, Int.mul_sub, Int.mul_sub, Int.mul_sub, Int.mul_sub]
  by_cases c : 0 < x
  · rw [if_pos c] at et ⊢
    by_cases d : x < 30
    · rw [if_pos d] at el ⊢
      rw [et, el]
      repeat' split
      all_goals omega
    · rw [if_neg d] at el ⊢
      rw [et, el, Int.mul_zero]
      repeat' split
      all_goals omega
  · rw [if_neg c] at et ⊢
    rw [if_pos (show x < 30 by omega)] at el ⊢
    rw [et, el, Int.mul_zero]
    repeat' split
    all_goals omega
section GM
variable {np : Nat} {N : Nat → Int32} {P : Nat → Nat → Int} {W : Nat → Int}
theorem m_go2 {kx : Int32 → (Nat → Int64) → (Nat → Int64) → Prop} {X : Int32} {ways : Nat → Int64} : ∀ (j i : Nat) (A : Nat → Int64), i + j = 31 → (∀ A' : Nat → Int64, (∀ q : Nat, i ≤ q → q < 31 → A' q = zL 0) → (∀ q : Nat, q < i → A' q = A q) → kx X ways A') → pX12_goOdds_2 kx (j + 1) X (zI i) ways A
  | 0, i, A, hi, hk => brT (by ((try simp only [zI_lit, zI_neg, zI_add, zI_sub, zI_mul, zI_n, ne_eq]) <;> (first | rw [zI_lt (by omega) (by omega)] | rw [zI_le (by omega) (by omega)] | rw [zI_eq (by omega) (by omega)]); try omega)) (hk A (fun q a b => absurd b (by omega)) (fun _ _ => rfl))
  | j + 1, i, A, hi, hk => by
    have e1 : zI (i : Int) + 1 = zI ((i + 1 : Nat) : Int) := by ((try simp only [zI_lit, zI_neg, zI_add, zI_sub, zI_mul, zI_n]) <;> (first | rfl | (refine zI_eqI ?_; omega)))
    have e3 : (zI (i : Int)).toNatClampNeg = i := by ((try simp only [zI_lit, zI_neg, zI_add, zI_sub, zI_mul, zI_n]); rw [zI_clamp (by omega)]; omega)
    refine brF (by ((try simp only [zI_lit, zI_neg, zI_add, zI_sub, zI_mul, zI_n, ne_eq]) <;> (first | rw [zI_lt (by omega) (by omega)] | rw [zI_le (by omega) (by omega)] | rw [zI_eq (by omega) (by omega)]); try omega)) ⟨by ((try simp only [zI_lit, zI_neg, zI_add, zI_sub, zI_mul, zI_n]); rw [zI_in (by omega)]; omega), ?_⟩
    rw [e1, e3]
    refine m_go2 j (i + 1) _ (by omega) (fun A' f1 f2 => hk A' (fun q a b => ?_) (fun q a => ?_))
    · by_cases c : q = i
      · rw [c, f2 _ (by omega), updL_s]; rfl
      · exact f1 q (by omega) b
    · rw [f2 q (by omega), updL_n _ _ (by omega)]
theorem m_go144 {kx : (Nat → Int64) → (Nat → Int64) → Prop} {B : Nat → Int64} : ∀ (j i : Nat) (A : Nat → Int64), i + j = 31 → (∀ A' : Nat → Int64, (∀ q : Nat, i ≤ q → q < 31 → A' q = B q) → (∀ q : Nat, q < i → A' q = A q) → kx A' B) → pX12_goOdds_144 kx (j + 1) (zI i) A B
  | 0, i, A, hi, hk => brT (by ((try simp only [zI_lit, zI_neg, zI_add, zI_sub, zI_mul, zI_n, ne_eq]) <;> (first | rw [zI_lt (by omega) (by omega)] | rw [zI_le (by omega) (by omega)] | rw [zI_eq (by omega) (by omega)]); try omega)) (hk A (fun q a b => absurd b (by omega)) (fun _ _ => rfl))
  | j + 1, i, A, hi, hk => by
    have e1 : zI (i : Int) + 1 = zI ((i + 1 : Nat) : Int) := by ((try simp only [zI_lit, zI_neg, zI_add, zI_sub, zI_mul, zI_n]) <;> (first | rfl | (refine zI_eqI ?_; omega)))
    have e3 : (zI (i : Int)).toNatClampNeg = i := by ((try simp only [zI_lit, zI_neg, zI_add, zI_sub, zI_mul, zI_n]); rw [zI_clamp (by omega)]; omega)
    refine brF (by ((try simp only [zI_lit, zI_neg, zI_add, zI_sub, zI_mul, zI_n, ne_eq]) <;> (first | rw [zI_lt (by omega) (by omega)] | rw [zI_le (by omega) (by omega)] | rw [zI_eq (by omega) (by omega)]); try omega)) ⟨by ((try simp only [zI_lit, zI_neg, zI_add, zI_sub, zI_mul, zI_n]); rw [zI_in (by omega)]; omega), by ((try simp only [zI_lit, zI_neg, zI_add, zI_sub, zI_mul, zI_n]); rw [zI_in (by omega)]; omega), ?_⟩
    rw [e1, e3]
    refine m_go144 j (i + 1) _ (by omega) (fun A' f1 f2 => hk A' (fun q a b => ?_) (fun q a => ?_))
    · by_cases c : q = i
      · rw [c, f2 _ (by omega), updL_s]
      · exact f1 q (by omega) b
    · rw [f2 q (by omega), updL_n _ _ (by omega)]
theorem m_go23 (hx : rowsIn 6 np (0 + 6) N P) (hP : okP np P) {i : Nat} (hi : i < np) {A : Nat → Int64} (hA : lr A W) {kx : (Nat → Int64) → (Nat → Int64) → Prop} (hk : ∀ B : Nat → Int64, lr B (pO W (P i)) → kx A B) : ∀ (j x : Nat) (B : Nat → Int64), x + j = 31 → lr B (sc W (P i 4) (10 - P i 4 - P i 5) (P i 5) (tkF true) (lyF true) x) → pX12_goOdds_23 N kx (j + 1) (zI i) (zI x) A B
  | 0, x, B, hj, hB => by
    rw [show x = 31 by omega] at hB ⊢
    exact brT (by ((try simp only [zI_lit, zI_neg, zI_add, zI_sub, zI_mul, zI_n, ne_eq]) <;> (first | rw [zI_lt (by omega) (by omega)] | rw [zI_le (by omega) (by omega)] | rw [zI_eq (by omega) (by omega)]); try omega)) (hk B hB)
  | j + 1, x, B, hj, hB => by
    obtain ⟨o1, o2, o3, o4, o5, o6, o7⟩ := hP.2.1 i hi
    have rcq := fun B' hB' => m_go23 hx hP hi hA hk j (x + 1) B' (by omega) hB'
    have last : ∀ (t' l' : Int), t' = (if 0 < x then P i 4 else 0) → l' = (if x < 30 then P i 5 else 0) → pX12_goOdds_60 (pX12_goOdds_23 N kx (j + 1)) (zI i) (zI x) (zI t') (zI l') A B := fun t' l' et el => by
      refine m_go60 hA hB (by omega) ?_ ?_ ?_ ?_ (fun B' hB' => rcq B' (lr_c hB' (fun q hq => ?_)))
      · rw [et]; split <;> omega
      · rw [el]; split <;> omega
      · rw [et]; split <;> omega
      · rw [el]; split <;> omega
      · show sc W (P i 4) (10 - P i 4 - P i 5) (P i 5) (tkF true) (lyF true) x q + _ + _ + _ = sc W (P i 4) (10 - P i 4 - P i 5) (P i 5) (tkF true) (lyF true) x q + ct W (P i 4) (10 - P i 4 - P i 5) (P i 5) (tkF true) (lyF true) x q
        rw [← ct_go (by omega) et el, Int.add_assoc, Int.add_assoc, Int.add_assoc]
    have mid : ∀ t' : Int, t' = (if 0 < x then P i 4 else 0) → pX12_goOdds_43 N (pX12_goOdds_23 N kx (j + 1)) (zI i) (zI x) (zI t') A B := fun t' et => by
      unfold pX12_goOdds_43
      by_cases c : x < 30
      · exact brF (by ((try simp only [zI_lit, zI_neg, zI_add, zI_sub, zI_mul, zI_n, ne_eq]) <;> (first | rw [zI_lt (by omega) (by omega)] | rw [zI_le (by omega) (by omega)] | rw [zI_eq (by omega) (by omega)]); try omega)) (m_p hx hP.1 hi 5 rfl (by omega) (last _ _ et (by rw [if_pos c])))
      · exact brT (by ((try simp only [zI_lit, zI_neg, zI_add, zI_sub, zI_mul, zI_n, ne_eq]) <;> (first | rw [zI_lt (by omega) (by omega)] | rw [zI_le (by omega) (by omega)] | rw [zI_eq (by omega) (by omega)]); try omega)) (last _ 0 et (by rw [if_neg c]))
    refine brF (by ((try simp only [zI_lit, zI_neg, zI_add, zI_sub, zI_mul, zI_n, ne_eq]) <;> (first | rw [zI_lt (by omega) (by omega)] | rw [zI_le (by omega) (by omega)] | rw [zI_eq (by omega) (by omega)]); try omega)) ?_
    by_cases c : 0 < x
    · exact brF (by ((try simp only [zI_lit, zI_neg, zI_add, zI_sub, zI_mul, zI_n, ne_eq]) <;> (first | rw [zI_lt (by omega) (by omega)] | rw [zI_le (by omega) (by omega)] | rw [zI_eq (by omega) (by omega)]); try omega)) (m_p hx hP.1 hi 4 rfl (by omega) (mid _ (by rw [if_pos c])))
    · exact brT (by ((try simp only [zI_lit, zI_neg, zI_add, zI_sub, zI_mul, zI_n, ne_eq]) <;> (first | rw [zI_lt (by omega) (by omega)] | rw [zI_le (by omega) (by omega)] | rw [zI_eq (by omega) (by omega)]); try omega)) (mid 0 (by rw [if_neg c]))
theorem m_go (hx : rowsIn 6 np (0 + 6) N P) (hP : okP np P) {i : Nat} (hi : i < np) {A B : Nat → Int64} (hA : lr A W) {k : (Nat → Int64) → (Nat → Int64) → Prop} (hk : ∀ A' B' : Nat → Int64, lr A' (pO W (P i)) → k A' B') : pX12_goOdds N A B (zI i) k := by
  unfold pX12_goOdds
  refine ⟨32, m_go2 31 0 B (by omega) (fun B0 f0 _ => ⟨32, m_go23 hx hP hi hA (fun B1 h1 => ⟨32, m_go144 31 0 A (by omega) (fun A' g1 _ => hk A' B1 (fun q hq => ?_))⟩) 31 0 B0 (by omega) (fun q hq => f0 q (by omega) hq)⟩)⟩
  rw [g1 q (by omega) hq]
  exact h1 q hq
theorem m_beg2 {h : Int} (e0 : N 0 = zI h) (hh : 0 ≤ h ∧ h ≤ 30) {kx : (Nat → Int64) → Prop} : ∀ (j i : Nat) (A : Nat → Int64), i + j = 31 → (∀ A' : Nat → Int64, (∀ q : Nat, i ≤ q → q < 31 → A' q = zL (ind h q)) → (∀ q : Nat, q < i → A' q = A q) → kx A') → pX12_begin_2 N kx (j + 1) (zI i) A
  | 0, i, A, hi, hk => brT (by ((try simp only [zI_lit, zI_neg, zI_add, zI_sub, zI_mul, zI_n, ne_eq]) <;> (first | rw [zI_lt (by omega) (by omega)] | rw [zI_le (by omega) (by omega)] | rw [zI_eq (by omega) (by omega)]); try omega)) (hk A (fun q a b => absurd b (by omega)) (fun _ _ => rfl))
  | j + 1, i, A, hi, hk => by
    have e1 : zI (i : Int) + 1 = zI ((i + 1 : Nat) : Int) := by ((try simp only [zI_lit, zI_neg, zI_add, zI_sub, zI_mul, zI_n]) <;> (first | rfl | (refine zI_eqI ?_; omega)))
    have e3 : (zI (i : Int)).toNatClampNeg = i := by ((try simp only [zI_lit, zI_neg, zI_add, zI_sub, zI_mul, zI_n]); rw [zI_clamp (by omega)]; omega)
    have go : ∀ v : Int64, v = zL (ind h i) → vp_in (zI (i : Int)) 31 ∧ pX12_begin_2 N kx (j + 1) (zI ((i + 1 : Nat) : Int)) (vp_updL A i v) := fun v ev => by
      refine ⟨by ((try simp only [zI_lit, zI_neg, zI_add, zI_sub, zI_mul, zI_n]); rw [zI_in (by omega)]; omega), m_beg2 e0 hh j (i + 1) _ (by omega) (fun A' f1 f2 => hk A' (fun q a b => ?_) (fun q a => ?_))⟩
      · by_cases c : q = i
        · rw [c, f2 _ (by omega), updL_s, ev]
        · exact f1 q (by omega) b
      · rw [f2 q (by omega), updL_n _ _ (by omega)]
    refine brF (by ((try simp only [zI_lit, zI_neg, zI_add, zI_sub, zI_mul, zI_n, ne_eq]) <;> (first | rw [zI_lt (by omega) (by omega)] | rw [zI_le (by omega) (by omega)] | rw [zI_eq (by omega) (by omega)]); try omega)) ?_
    rw [e1, e3, c0, e0]
    by_cases c : (i : Int) = h
    · exact brT (by rw [c]) (go 1 (by unfold ind; rw [if_pos c]; rfl))
    · exact brF (by ((try simp only [zI_lit, zI_neg, zI_add, zI_sub, zI_mul, zI_n, ne_eq]) <;> (first | rw [zI_lt (by omega) (by omega)] | rw [zI_le (by omega) (by omega)] | rw [zI_eq (by omega) (by omega)]); try omega)) (go 0 (by unfold ind; rw [if_neg c]; rfl))
theorem m_beg {h : Int} (e0 : N 0 = zI h) (hh : 0 ≤ h ∧ h ≤ 30) {A : Nat → Int64} {k : (Nat → Int64) → Prop} (hk : ∀ A' : Nat → Int64, lr A' (ind h) → k A') : pX12_begin N A k := by
  unfold pX12_begin
  exact ⟨32, m_beg2 e0 hh 31 0 A (by omega) (fun A' f1 _ => hk A' (fun q hq => f1 q (by omega) hq))⟩
end GM
theorem m_w5 {A : Nat → Int64} {W : Nat → Int} (hA : lr A W) {c : Nat} (hc : c ≤ 30) {kx : Int64 → Prop} (hk : kx (zL (sm W (c + 1)))) : ∀ (j i : Nat), i + j = c + 1 → pX12_waysTo_5 A kx (j + 1) (zI c) (zL (sm W i)) (zI i)
  | 0, i, hi => by
    rw [show i = c + 1 by omega]
    exact brT (by ((try simp only [zI_lit, zI_neg, zI_add, zI_sub, zI_mul, zI_n, ne_eq]) <;> (first | rw [zI_lt (by omega) (by omega)] | rw [zI_le (by omega) (by omega)] | rw [zI_eq (by omega) (by omega)]); try omega)) hk
  | j + 1, i, hi => by
    have e1 : zI (i : Int) + 1 = zI ((i + 1 : Nat) : Int) := by ((try simp only [zI_lit, zI_neg, zI_add, zI_sub, zI_mul, zI_n]) <;> (first | rfl | (refine zI_eqI ?_; omega)))
    have e3 : (zI (i : Int)).toNatClampNeg = i := by ((try simp only [zI_lit, zI_neg, zI_add, zI_sub, zI_mul, zI_n]); rw [zI_clamp (by omega)]; omega)
    refine brF (by ((try simp only [zI_lit, zI_neg, zI_add, zI_sub, zI_mul, zI_n, ne_eq]) <;> (first | rw [zI_lt (by omega) (by omega)] | rw [zI_le (by omega) (by omega)] | rw [zI_eq (by omega) (by omega)]); try omega)) ⟨by ((try simp only [zI_lit, zI_neg, zI_add, zI_sub, zI_mul, zI_n]); rw [zI_in (by omega)]; omega), ?_⟩
    rw [e1, e3, hA i (by omega), zL_add]
    exact m_w5 hA hc hk j (i + 1) (by omega)
theorem m_w {A : Nat → Int64} {W : Nat → Int} (hA : lr A W) {c : Nat} {C : Int32} (eC : C = zI c) (hc : c ≤ 30) {k : Int64 → Prop} (hk : k (zL (sm W (c + 1)))) : pX12_waysTo A C k := by
  unfold pX12_waysTo
  rw [eC]
  exact ⟨c + 2, m_w5 hA hc hk (c + 1) 0 (by omega)⟩
/-! lowest terms -/
def eg : Nat → Int → Int → Int
  | 0, a, _ => a
  | m + 1, a, b => if b = 0 then a else eg m b (a % b)
def ef : Nat → Int → Int → Prop
  | 0, _, b => b = 0
  | m + 1, a, b => b = 0 ∨ ef m b (a % b)
theorem ef_2 : ∀ (n : Nat) (a b : Int), 0 ≤ b → b < (2 : Int) ^ n → ef (2 * n) a b
  | 0, a, b, h0, h1 => by
    rw [Int.pow_zero] at h1
    show b = 0
    omega
  | n + 1, a, b, h0, h1 => by
    rw [Int.pow_succ] at h1
    show b = 0 ∨ (a % b = 0 ∨ ef (2 * n) (a % b) (b % (a % b)))
    by_cases c : b = 0
    · exact Or.inl c
    · refine Or.inr ?_
      have r0 := Int.emod_nonneg a c
      have r1 := Int.emod_lt_of_pos a (show 0 < b by omega)
      by_cases d : a % b = 0
      · exact Or.inl d
      · refine Or.inr (ef_2 n _ _ (Int.emod_nonneg b d) ?_)
        have s1 := Int.emod_lt_of_pos b (show 0 < a % b by omega)
        have s2 := Int.mul_ediv_add_emod b (a % b)
        have s3 : 1 ≤ b / (a % b) := by
          rw [Int.le_ediv_iff_mul_le (by omega), Int.one_mul]; omega
        have s4 : a % b * 1 ≤ a % b * (b / (a % b)) := Int.mul_le_mul_of_nonneg_left s3 r0
        rw [Int.mul_one] at s4
        omega
theorem eg_b {M : Int} : ∀ (m : Nat) (a b : Int), ef m a b → 0 ≤ a → 0 ≤ b → 0 < a ∨ 0 < b → a ≤ M → b ≤ M → 0 < eg m a b ∧ eg m a b ≤ M
  | 0, a, b, h, ha, hb, hp, h1, h2 => by
    have : b = 0 := h
    show 0 < a ∧ a ≤ M
    omega
  | m + 1, a, b, h, ha, hb, hp, h1, h2 => by
    show 0 < (if b = 0 then a else eg m b (a % b)) ∧ (if b = 0 then a else eg m b (a % b)) ≤ M
    by_cases c : b = 0
    · rw [if_pos c]; omega
    · rw [if_neg c]
      have r0 := Int.emod_nonneg a c
      have r1 := Int.emod_lt_of_pos a (show 0 < b by omega)
      rcases h with h | h
      · exact absurd h c
      · exact eg_b m b (a % b) h hb r0 (Or.inl (by omega)) h2 (by omega)
theorem zL_inj0 {b : Int} (hb : 0 ≤ b ∧ b ≤ 1000000000000) : zL b = 0 ↔ b = 0 := by
  constructor
  · intro e
    have := congrArg Int64.toInt e
    rw [zL_toInt (by omega)] at this
    exact this
  · intro e; rw [e]; rfl
theorem zL_div {a b : Int} (ha : 0 ≤ a ∧ a ≤ 1000000000000) (hb : 0 < b ∧ b ≤ 1000000000000) : zL a / zL b = zL (a / b) := by
  apply Int64.toInt_inj.1
  rw [Int64.toInt_div, zL_toInt (by omega), zL_toInt (by omega), Int.tdiv_eq_ediv_of_nonneg ha.1]
  have h1 : 0 ≤ a / b := Int.ediv_nonneg ha.1 (by omega)
  have h2 : a / b ≤ a := Int.ediv_le_self b ha.1
  rw [zL_toInt (by omega), Int.bmod_eq_of_le (by omega) (by omega)]
theorem zL_mod {a b : Int} (ha : 0 ≤ a ∧ a ≤ 1000000000000) (hb : 0 < b ∧ b ≤ 1000000000000) : zL a - zL a / zL b * zL b = zL (a % b) := by
  rw [zL_div ha hb, zL_mul, zL_sub, Int.emod_def, Int.mul_comm b]
theorem x_cd3 {kx : Int64 → Prop} : ∀ (m i : Nat) (a b : Int), i + m ≤ 99 → 0 ≤ a ∧ a ≤ 1000000000000 → 0 ≤ b ∧ b ≤ 1000000000000 → ef m a b → kx (zL (eg m a b)) → pX11_commonDivisor_3 kx (m + 1) (zL a) (zL b) (zI i)
  | 0, i, a, b, hi, ha, hb, he, hk => by
    have : b = 0 := he
    exact brF (by ((try simp only [zI_lit, zI_neg, zI_add, zI_sub, zI_mul, zI_n, ne_eq]) <;> (first | rw [zI_lt (by omega) (by omega)] | rw [zI_le (by omega) (by omega)] | rw [zI_eq (by omega) (by omega)]); try omega)) (brT ((lg_cmp_eq _ _).mpr ((zL_inj0 hb).2 this)) hk)
  | m + 1, i, a, b, hi, ha, hb, he, hk => by
    have e1 : zI (i : Int) + 1 = zI ((i + 1 : Nat) : Int) := by ((try simp only [zI_lit, zI_neg, zI_add, zI_sub, zI_mul, zI_n]) <;> (first | rfl | (refine zI_eqI ?_; omega)))
    refine brF (by ((try simp only [zI_lit, zI_neg, zI_add, zI_sub, zI_mul, zI_n, ne_eq]) <;> (first | rw [zI_lt (by omega) (by omega)] | rw [zI_le (by omega) (by omega)] | rw [zI_eq (by omega) (by omega)]); try omega)) ?_
    unfold eg at hk
    by_cases c : b = 0
    · rw [if_pos c] at hk
      exact brT ((lg_cmp_eq _ _).mpr ((zL_inj0 hb).2 c)) hk
    · rw [if_neg c] at hk
      have cz : ¬ zL b = 0 := fun z => c ((zL_inj0 hb).1 z)
      have r0 := Int.emod_nonneg a c
      have r1 := Int.emod_lt_of_pos a (show 0 < b by omega)
      rcases he with he | he
      · exact absurd he c
      · refine brF (fun z => cz ((lg_cmp_eq _ _).mp z)) ⟨cz, ?_⟩
        rw [zL_mod ha (by omega), e1]
        exact x_cd3 m (i + 1) b (a % b) (by omega) hb (by omega) he hk
theorem m_te6 {X Y U V : Int64} {kx : Int64 → Int64 → Int64 → Int64 → Int64 → Prop} : ∀ (m : Nat) (a b : Int), 0 ≤ a ∧ a ≤ 1000000000000 → 0 ≤ b ∧ b ≤ 1000000000000 → ef m a b → kx X Y (zL (eg m a b)) U V → pX12_tell_6 kx (m + 1) X Y (zL a) (zL b) U V
  | 0, a, b, ha, hb, he, hk => by
    have : b = 0 := he
    exact brT ((lg_cmp_eq _ _).mpr ((zL_inj0 hb).2 this)) hk
  | m + 1, a, b, ha, hb, he, hk => by
    unfold eg at hk
    by_cases c : b = 0
    · rw [if_pos c] at hk
      exact brT ((lg_cmp_eq _ _).mpr ((zL_inj0 hb).2 c)) hk
    · rw [if_neg c] at hk
      have cz : ¬ zL b = 0 := fun z => c ((zL_inj0 hb).1 z)
      have r0 := Int.emod_nonneg a c
      have r1 := Int.emod_lt_of_pos a (show 0 < b by omega)
      rcases he with he | he
      · exact absurd he c
      · refine brF (fun z => cz ((lg_cmp_eq _ _).mp z)) ⟨cz, ?_⟩
        rw [zL_mod ha (by omega)]
        exact m_te6 m b (a % b) hb (by omega) he hk
theorem ef_80 (a : Int) {b : Int} (hb : 0 ≤ b ∧ b ≤ 1000000000000) : ef 80 a b := by
  have e : (2 : Int) ^ 40 = 1099511627776 := by decide
  exact ef_2 40 a b hb.1 (by rw [e]; omega)
theorem x_setF {a b : Int} (ha : 0 ≤ a ∧ a ≤ 1000000000000) (hb : 0 < b ∧ b ≤ 1000000000000) {U V : Int64} {k : Int64 → Int64 → Prop} (hk : k (zL a / zL (eg 80 a b)) (zL b / zL (eg 80 a b))) : pX11_setFraction U V (zL a) (zL b) k := by
  have he := ef_80 a (b := b) (by omega)
  have bg := eg_b 80 a b he ha.1 (by omega) (Or.inr hb.1) ha.2 hb.2
  unfold pX11_setFraction pX11_commonDivisor
  have nz : ¬ zL (eg 80 a b) = 0 := fun z => by
    have := (zL_inj0 (by omega)).1 z
    omega
  refine ⟨81, x_cd3 80 0 a b (by omega) ha (by omega) he (brF (fun z => ?_) ⟨nz, nz, hk⟩)⟩
  have z2 := (lg_cmp_le _ _).mp z
  rw [Int64.le_iff_toInt_le, zL_toInt (by omega)] at z2
  have : eg 80 a b ≤ 0 := z2
  omega
theorem m_tell {a b : Int} (ha : 0 ≤ a ∧ a ≤ 1000000000000) (hb : 0 < b ∧ b ≤ 1000000000000) {U V : Int64} {k : Int32 → Int64 → Int64 → Prop} (hk : k 1 (zL a / zL (eg 80 a b)) (zL b / zL (eg 80 a b))) : pX12_tell U V (zL a) (zL b) k := by
  have he := ef_80 a (b := b) (by omega)
  have bg := eg_b 80 a b he ha.1 (by omega) (Or.inr hb.1) ha.2 hb.2
  unfold pX12_tell
  have nz : ¬ zL (eg 80 a b) = 0 := fun z => by
    have := (zL_inj0 (by omega)).1 z
    omega
  exact ⟨81, m_te6 80 a b ha (by omega) he ⟨nz, nz, hk⟩⟩
theorem pow10 : ∀ i : Nat, i ≤ 12 → 0 < (10 : Int) ^ i ∧ (10 : Int) ^ i ≤ 1000000000000 := by decide
theorem tkT {i : Nat} (hi : i < 31) : 0 ≤ tkF true i ∧ tkF true i < 31 := by
  unfold tkF
  split
  · rename_i z; rcases z with z | z
    · omega
    · exact absurd z (by decide)
  · omega
theorem lyT {i : Nat} (hi : i < 31) : 0 ≤ lyF true i ∧ lyF true i < 31 := by
  unfold lyF
  split
  · rename_i z; rcases z with z | z
    · omega
    · exact absurd z (by decide)
  · omega
theorem pO_n {np : Nat} {P : Nat → Nat → Int} (hP : okP np P) {i : Nat} (hi : i < np) {W : Nat → Int} (hW : ∀ q, 0 ≤ W q) (q : Nat) : 0 ≤ pO W (P i) q := by
  obtain ⟨o1, o2, o3, o4, o5, o6, o7⟩ := hP.2.1 i hi
  exact sc_n o5 (by omega) o6 q 31 (fun j _ => hW j)
theorem pO_s {W : Nat → Int} {R : Nat → Int} : sm (pO W R) 31 = sm W 31 * 10 := by
  have e := sm_sc (W := W) (t := R 4) (s := 10 - R 4 - R 5) (l := R 5) (fun i hi => tkT hi) (fun i hi => lyT hi) 31 (Nat.le_refl 31)
  rw [show R 4 + (10 - R 4 - R 5) + R 5 = 10 by omega] at e
  exact e
theorem ind_n (h : Int) (q : Nat) : 0 ≤ ind h q := by unfold ind; split <;> omega
theorem ind_s {h : Int} (hh : 0 ≤ h ∧ h ≤ 30) : sm (ind h) 31 = 1 := by
  have e := sm_ite h 1 31
  rw [if_pos (by omega)] at e
  exact e
