/-! words and numbers at hand, on both sides -/
theorem wc_s : ∀ w : Nat, w < 6 → ∀ k : Nat, k < wl w → sch w (zI (k : Int)) = zI (wc w k) ∧ (97 ≤ wc w k ∧ wc w k ≤ 122) := by decide +kernel
theorem wl_b : ∀ w : Nat, w < 6 → 4 ≤ wl w ∧ wl w ≤ 6 := by decide
section WX
variable {B : Nat → Int32} {v : Nat → Int} {t : Nat}
theorem x_at20 (ht : t ≤ 200) (hB : ∀ i, i < t → B i = zI (v i)) (hv : ∀ i, i < t → -128 ≤ v i ∧ v i ≤ 127) {p w : Nat} (hw : w < 6) (hp : p + wl w ≤ t) {k : Int32 → Prop} (h1 : (∀ q, q < wl w → v (p + q) = wc w q) → k 1) (h0 : ¬ (∀ q, q < wl w → v (p + q) = wc w q) → k 0) : ∀ j i : Nat, i + j = wl w → (∀ q, q < i → v (p + q) = wc w q) → pX6_isAtHand_20 B (zI p) w k (j + 1) (zI i)
  | 0, i, hi, ha => by
    have lb := wl_b w hw
    have en : nI (strLen.getD w 0) = zI (wl w : Int) := zI_n _
    refine brT ?_ (h1 (fun q hq => ha q (by omega)))
    rw [en]
    ((try simp only [zI_lit, zI_neg, zI_add, zI_sub, zI_mul, zI_n, ne_eq]) <;> (first | rw [zI_lt (by omega) (by omega)] | rw [zI_le (by omega) (by omega)] | rw [zI_eq (by omega) (by omega)]); try omega)
  | j + 1, i, hi, ha => by
    have lb := wl_b w hw
    have en : nI (strLen.getD w 0) = zI (wl w : Int) := zI_n _
    have e1 : zI (i : Int) + 1 = zI ((i + 1 : Nat) : Int) := by ((try simp only [zI_lit, zI_neg, zI_add, zI_sub, zI_mul, zI_n]) <;> (first | rfl | (refine zI_eqI ?_; omega)))
    have ec := wc_s w hw i (by omega)
    have hvi := hv (p + i) (by omega)
    refine brF (by rw [en]; ((try simp only [zI_lit, zI_neg, zI_add, zI_sub, zI_mul, zI_n, ne_eq]) <;> (first | rw [zI_lt (by omega) (by omega)] | rw [zI_le (by omega) (by omega)] | rw [zI_eq (by omega) (by omega)]); try omega)) ⟨?_, x_by ht hB (i := p + i) (by omega) (by ((try simp only [zI_lit, zI_neg, zI_add, zI_sub, zI_mul, zI_n]) <;> (first | rfl | (refine zI_eqI ?_; omega)))) ?_⟩
    · show vp_in (zI (i : Int)) (wl w)
      ((try simp only [zI_lit, zI_neg, zI_add, zI_sub, zI_mul, zI_n]); rw [zI_in (by omega)]; omega)
    · rw [ec.1, e1]
      by_cases c : wc w i = v (p + i)
      · refine brT (by rw [c]) (x_at20 ht hB hv hw hp h1 h0 j (i + 1) (by omega) (fun q hq => ?_))
        by_cases d : q = i
        · rw [d]; exact c.symm
        · exact ha q (by omega)
      · exact brF (by ((try simp only [zI_lit, zI_neg, zI_add, zI_sub, zI_mul, zI_n, ne_eq]) <;> (first | rw [zI_lt (by omega) (by omega)] | rw [zI_le (by omega) (by omega)] | rw [zI_eq (by omega) (by omega)]); try omega)) (h0 (fun z => c (z i (by omega)).symm))
theorem x_isAt (ht : t ≤ 200) (hB : ∀ i, i < t → B i = zI (v i)) (hv : ∀ i, i < t → -128 ≤ v i ∧ v i ≤ 127) {p e w : Nat} (hw : w < 6) (hp : p < e) (he : e ≤ t) {k : Int32 → Prop} (h1 : wm v p (e - p) w → k 1) (h0 : ¬ wm v p (e - p) w → k 0) : pX6_isAtHand B (zI p) (zI e) w k := by
  have lb := wl_b w hw
  have en : nI (strLen.getD w 0) = zI (wl w : Int) := zI_n _
  unfold pX6_isAtHand
  rw [en]
  by_cases c : wl w = e - p
  · refine brT (by ((try simp only [zI_lit, zI_neg, zI_add, zI_sub, zI_mul, zI_n, ne_eq]) <;> (first | rw [zI_lt (by omega) (by omega)] | rw [zI_le (by omega) (by omega)] | rw [zI_eq (by omega) (by omega)]); try omega)) ⟨wl w + 1, x_at20 ht hB hv hw (by omega) (fun z => h1 ⟨c.symm, by rw [← c]; exact z⟩) (fun z => h0 (fun y => z (by rw [c]; exact y.2))) (wl w) 0 (by omega) (fun q hq => absurd hq (by omega))⟩
  · exact brF (by ((try simp only [zI_lit, zI_neg, zI_add, zI_sub, zI_mul, zI_n, ne_eq]) <;> (first | rw [zI_lt (by omega) (by omega)] | rw [zI_le (by omega) (by omega)] | rw [zI_eq (by omega) (by omega)]); try omega)) (h0 (fun z => c z.1.symm))
theorem x_wOf {w : Nat} (hw : w < 6) {k : Nat → Prop} (hk : k w) : pX6_wordOf (zI w) k := by
  unfold pX6_wordOf
  have hz : (-2147483648 ≤ (w : Int) ∧ (w : Int) < 2147483648) := by omega
  refine ⟨fun e => ?_, fun e => ?_, fun e => ?_, fun e => ?_, fun e => ?_, fun e0 e1 e2 e3 e4 => ?_⟩
  · rw [z0, zI_eq hz (by omega)] at e; rw [show w = 0 by omega] at hk; exact hk
  · rw [z1, zI_eq hz (by omega)] at e; rw [show w = 1 by omega] at hk; exact hk
  · rw [z2, zI_eq hz (by omega)] at e; rw [show w = 2 by omega] at hk; exact hk
  · rw [z3, zI_eq hz (by omega)] at e; rw [show w = 3 by omega] at hk; exact hk
  · rw [z4, zI_eq hz (by omega)] at e; rw [show w = 4 by omega] at hk; exact hk
  · rw [z0, zI_eq hz (by omega)] at e0
    rw [z1, zI_eq hz (by omega)] at e1
    rw [z2, zI_eq hz (by omega)] at e2
    rw [z3, zI_eq hz (by omega)] at e3
    rw [z4, zI_eq hz (by omega)] at e4
    rw [show w = 5 by omega] at hk; exact hk
theorem x_wa2 (ht : t ≤ 200) (hB : ∀ i, i < t → B i = zI (v i)) (hv : ∀ i, i < t → -128 ≤ v i ∧ v i ≤ 127) {p e : Nat} (hp : p < e) (he : e ≤ t) {k : Int32 → Prop} (h1 : ∀ w : Nat, w < 6 → wm v p (e - p) w → k (zI w)) (h0 : (∀ w : Nat, w < 6 → ¬ wm v p (e - p) w) → k (-1)) : ∀ j w : Nat, w + j = 6 → (∀ u, u < w → ¬ wm v p (e - p) u) → pX6_wordAtHand_2 B (zI p) (zI e) k (j + 1) (zI w)
  | 0, w, hw, ha => brT (by ((try simp only [zI_lit, zI_neg, zI_add, zI_sub, zI_mul, zI_n, ne_eq]) <;> (first | rw [zI_lt (by omega) (by omega)] | rw [zI_le (by omega) (by omega)] | rw [zI_eq (by omega) (by omega)]); try omega)) (h0 (fun u hu => ha u (by omega)))
  | j + 1, w, hw, ha => by
    have e1 : zI (w : Int) + 1 = zI ((w + 1 : Nat) : Int) := by ((try simp only [zI_lit, zI_neg, zI_add, zI_sub, zI_mul, zI_n]) <;> (first | rfl | (refine zI_eqI ?_; omega)))
    refine brF (by ((try simp only [zI_lit, zI_neg, zI_add, zI_sub, zI_mul, zI_n, ne_eq]) <;> (first | rw [zI_lt (by omega) (by omega)] | rw [zI_le (by omega) (by omega)] | rw [zI_eq (by omega) (by omega)]); try omega)) (x_wOf (by omega) (x_isAt ht hB hv (by omega) hp he (fun z => br1 (h1 w (by omega) z)) (fun z => br0 ?_)))
    rw [e1]
    refine x_wa2 ht hB hv hp he h1 h0 j (w + 1) (by omega) (fun u hu => ?_)
    by_cases d : u = w
    · rw [d]; exact z
    · exact ha u (by omega)
theorem mg_wk : ∀ w : Nat, w < 6 → mg (wk6 w) = (w : Int) := by decide
theorem mg_ne {c : Int} (h : ∀ w : Nat, w < 6 → ¬ c = wk6 w) : mg c = 9 := by
  have k0 : wk6 0 = 453774 ∧ wk6 1 = 230501934 ∧ wk6 2 = 1162559 ∧ wk6 3 = 1755524 ∧ wk6 4 = 247547 ∧ wk6 5 = 1890386 := by decide
  have h0 := h 0 (by omega)
  have h1 := h 1 (by omega)
  have h2 := h 2 (by omega)
  have h3 := h 3 (by omega)
  have h4 := h 4 (by omega)
  have h5 := h 5 (by omega)
  unfold mg
  rw [if_neg (by omega), if_neg (by omega), if_neg (by omega), if_neg (by omega), if_neg (by omega), if_neg (by omega)]
theorem x_word (ht : t ≤ 200) (hB : ∀ i, i < t → B i = zI (v i)) (hv : ∀ i, i < t → -128 ≤ v i ∧ v i ≤ 127) {i : Nat} (hi : i ≤ t) (hq : qs v t i = 1) {E : Int32} (eE : E = zI (qe v t i)) {k : Int32 → Prop} (hk : k (zI (if wd v t i = 9 then -1 else wd v t i))) : pX6_wordAtHand B (zI (qp v t i)) E k := by
  have he := qe_b v hi (by omega)
  have hA := qA hi hq
  unfold pX6_wordAtHand
  rw [eE]
  refine ⟨7, x_wa2 ht hB hv he.1 he.2 (fun w hw z => ?_) (fun z => ?_) 6 0 (by omega) (fun u hu => absurd hu (by omega))⟩
  · have e := (wm_i hw hA).1 z
    have ew : wd v t i = (w : Int) := by unfold wd; rw [e]; exact mg_wk w hw
    rw [ew, if_neg (by omega)] at hk
    exact hk
  · have ew : wd v t i = 9 := by
      unfold wd
      exact mg_ne (fun w hw y => z w hw ((wm_i hw hA).2 y))
    rw [ew, if_pos rfl] at hk
    exact hk
/-- a word that is one has four letters at least -/
theorem wd_len {i : Nat} (hi : i ≤ t) (hq : qs v t i = 1) (h : wd v t i ≠ 9) : 4 ≤ qe v t i - qp v t i := by
  have hA := qA hi hq
  have lb := wl_b
  apply Decidable.byContradiction
  intro c
  refine h ?_
  unfold wd
  refine mg_ne (fun w hw y => ?_)
  have := ((wm_i hw hA).2 y).1
  have := lb w hw
  omega
theorem x_na7 (ht : t ≤ 200) (hB : ∀ i, i < t → B i = zI (v i)) {p e : Nat} (he : e ≤ t) {kx : Int32 → Prop} : ∀ j k : Nat, p + k + j = e → kx (zI (nm v p (k + j))) → pX6_numberAtHand_7 (zI e) B kx (j + 1) (zI (nm v p k)) (zI ((p + k : Nat) : Int))
  | 0, k, hk, h => brT (by ((try simp only [zI_lit, zI_neg, zI_add, zI_sub, zI_mul, zI_n, ne_eq]) <;> (first | rw [zI_lt (by omega) (by omega)] | rw [zI_le (by omega) (by omega)] | rw [zI_eq (by omega) (by omega)]); try omega)) h
  | j + 1, k, hk, h => by
    have e1 : zI ((p + k : Nat) : Int) + 1 = zI ((p + (k + 1) : Nat) : Int) := by ((try simp only [zI_lit, zI_neg, zI_add, zI_sub, zI_mul, zI_n]) <;> (first | rfl | (refine zI_eqI ?_; omega)))
    refine brF (by ((try simp only [zI_lit, zI_neg, zI_add, zI_sub, zI_mul, zI_n, ne_eq]) <;> (first | rw [zI_lt (by omega) (by omega)] | rw [zI_le (by omega) (by omega)] | rw [zI_eq (by omega) (by omega)]); try omega)) (x_by ht hB (i := p + k) (by omega) rfl ?_)
    rw [e1, show (10 : Int32) * zI (nm v p k) + zI (v (p + k)) - 48 = zI (nm v p (k + 1)) from by
      show _ = zI (10 * nm v p k + v (p + k) - 48)
      ((try simp only [zI_lit, zI_neg, zI_add, zI_sub, zI_mul, zI_n]) <;> (first | rfl | (refine zI_eqI ?_; omega)))]
    refine x_na7 ht hB he j (k + 1) (by omega) ?_
    rw [show k + 1 + j = k + (j + 1) by omega]
    exact h
theorem x_num (ht : t ≤ 200) (hB : ∀ i, i < t → B i = zI (v i)) {i : Nat} (hi : i ≤ t) (hq : qs v t i = 2) {E : Int32} (eE : E = zI (qe v t i)) {k : Int32 → Prop} (hk : k (zI (qn v t i))) : pX6_numberAtHand (zI (qp v t i)) E B k := by
  have he := qe_b v hi (by omega)
  unfold pX6_numberAtHand
  rw [eE]
  refine ⟨_, x_na7 (p := qp v t i) ht hB he.2 (qe v t i - qp v t i) 0 (by omega) ?_⟩
  rw [Nat.zero_add]
  exact hk
end WX
/-! the reference's next -/
def uv (z : Int) : Int := if z < 0 then z + 256 else z
theorem and255 : ∀ n : Nat, n < 256 → (zI ((n : Int) - 128)) &&& 255 = zI (uv ((n : Int) - 128)) := by decide +kernel
theorem and255z {z : Int} (h : -128 ≤ z ∧ z ≤ 127) : zI z &&& 255 = zI (uv z) := by
  have q := and255 (z + 128).toNat (by omega)
  rw [show (((z + 128).toNat : Nat) : Int) - 128 = z by omega] at q
  exact q
def qm (v : Nat → Int) (t i : Nat) : Int := if qs v t i = 0 then 8 else if qs v t i = 1 then wd v t i else if qs v t i = 2 then 6 else if qs v t i = 3 then 7 else 9
section NM
variable {T : Nat → Int32} {v : Nat → Int} {t : Nat}
theorem m_here (ht : t ≤ 200) (hT : ∀ i, i < t → T i = zI (v i)) (hv : ∀ i, i < t → -128 ≤ v i ∧ v i ≤ 127) {i : Nat} (hi : i ≤ t) {k : Int32 → Prop} (h1 : t ≤ i → k (zI (-1))) (h2 : i < t → k (zI (uv (v i)))) : pX12_here (zI t) (zI i) T k := by
  unfold pX12_here
  by_cases c : t ≤ i
  · exact brT (by ((try simp only [zI_lit, zI_neg, zI_add, zI_sub, zI_mul, zI_n, ne_eq]) <;> (first | rw [zI_lt (by omega) (by omega)] | rw [zI_le (by omega) (by omega)] | rw [zI_eq (by omega) (by omega)]); try omega)) (h1 c)
  · have e3 : (zI (i : Int)).toNatClampNeg = i := by ((try simp only [zI_lit, zI_neg, zI_add, zI_sub, zI_mul, zI_n]); rw [zI_clamp (by omega)]; omega)
    refine brF (by ((try simp only [zI_lit, zI_neg, zI_add, zI_sub, zI_mul, zI_n, ne_eq]) <;> (first | rw [zI_lt (by omega) (by omega)] | rw [zI_le (by omega) (by omega)] | rw [zI_eq (by omega) (by omega)]); try omega)) ⟨by ((try simp only [zI_lit, zI_neg, zI_add, zI_sub, zI_mul, zI_n]); rw [zI_in (by omega)]; omega), ?_⟩
    rw [e3, hT i (by omega), and255z (hv i (by omega))]
    exact h2 (by omega)
theorem m_n0 (ht : t ≤ 200) (hT : ∀ i, i < t → T i = zI (v i)) (hv : ∀ i, i < t → -128 ≤ v i ∧ v i ≤ 127) {a b c : Int32} {kx : Int32 → Int32 → Int32 → Int32 → Prop} : ∀ n i : Nat, i ≤ t → n = t - i → kx (zI (run (isS v) n i)) a b c → pX12_next_0 (zI t) T kx (n + 1) (zI i) a b c
  | 0, i, hi, hn, hk => m_here ht hT hv hi (fun _ => brF (by decide) hk) (fun z => absurd z (by omega))
  | n + 1, i, hi, hn, hk => by
    have e1 : zI (i : Int) + 1 = zI ((i + 1 : Nat) : Int) := by ((try simp only [zI_lit, zI_neg, zI_add, zI_sub, zI_mul, zI_n]) <;> (first | rfl | (refine zI_eqI ?_; omega)))
    unfold run at hk
    refine m_here ht hT hv hi (fun z => absurd z (by omega)) (fun z => ?_)
    have hvi := hv i z
    have eu : uv (v i) = 32 ↔ v i = 32 := by unfold uv; split <;> omega
    have bu : 0 ≤ uv (v i) ∧ uv (v i) ≤ 255 := by unfold uv; split <;> omega
    by_cases c : v i = 32
    · rw [if_pos (isS_i.2 c)] at hk
      have := eu.2 c
      refine brT (by ((try simp only [zI_lit, zI_neg, zI_add, zI_sub, zI_mul, zI_n, ne_eq]) <;> (first | rw [zI_lt (by omega) (by omega)] | rw [zI_le (by omega) (by omega)] | rw [zI_eq (by omega) (by omega)]); try omega)) ?_
      rw [e1]
      exact m_n0 ht hT hv n (i + 1) (by omega) (by omega) hk
    · rw [if_neg (fun z => c (isS_i.1 z))] at hk
      have : ¬ uv (v i) = 32 := fun z => c (eu.1 z)
      exact brF (by ((try simp only [zI_lit, zI_neg, zI_add, zI_sub, zI_mul, zI_n, ne_eq]) <;> (first | rw [zI_lt (by omega) (by omega)] | rw [zI_le (by omega) (by omega)] | rw [zI_eq (by omega) (by omega)]); try omega)) hk
theorem m_n66 (ht : t ≤ 200) (hT : ∀ i, i < t → T i = zI (v i)) (hv : ∀ i, i < t → -128 ≤ v i ∧ v i ≤ 127) {p : Nat} {b c : Int32} {kx : Int32 → Int32 → Int32 → Int32 → Int32 → Prop} : ∀ n k : Nat, p + k ≤ t → n = t - (p + k) → kx (zI (ck v p (run (isA v) n (p + k) - p))) (zI (run (isA v) n (p + k))) (zI p) b c → pX12_next_66 (zI t) T kx (n + 1) (zI (ck v p k)) (zI ((p + k : Nat) : Int)) (zI p) b c
  | 0, k, hi, hn, hk => by
    have e : run (isA v) 0 (p + k) = p + k := rfl
    rw [e, show p + k - p = k by omega] at hk
    exact m_here ht hT hv hi (fun _ => m_wi (b := 97) (c := 122) rfl rfl (by omega) (by omega) (by omega) (fun z => absurd z (by omega)) (fun _ => br0 hk)) (fun z => absurd z (by omega))
  | n + 1, k, hi, hn, hk => by
    have e1 : zI ((p + k : Nat) : Int) + 1 = zI ((p + (k + 1) : Nat) : Int) := by ((try simp only [zI_lit, zI_neg, zI_add, zI_sub, zI_mul, zI_n]) <;> (first | rfl | (refine zI_eqI ?_; omega)))
    unfold run at hk
    refine m_here ht hT hv hi (fun z => absurd z (by omega)) (fun z => ?_)
    have hvi := hv (p + k) z
    have bu : 0 ≤ uv (v (p + k)) ∧ uv (v (p + k)) ≤ 255 := by unfold uv; split <;> omega
    have eu : 97 ≤ uv (v (p + k)) ∧ uv (v (p + k)) ≤ 122 ↔ 97 ≤ v (p + k) ∧ v (p + k) ≤ 122 := by unfold uv; split <;> omega
    refine m_wi (b := 97) (c := 122) rfl rfl (by omega) (by omega) (by omega) (fun g => br1 ?_) (fun g => br0 ?_)
    · have g' := eu.1 g
      have euv : uv (v (p + k)) = v (p + k) := by unfold uv; split <;> omega
      rw [if_pos (isA_i.2 g')] at hk
      have rcq := m_n66 ht hT hv (p := p) (b := b) (c := c) (kx := kx) n (k + 1) (by omega) (by omega) hk
      by_cases d : 6 ≤ k
      · refine brT (by ((try simp only [zI_lit, zI_neg, zI_add, zI_sub, zI_mul, zI_n, ne_eq]) <;> (first | rw [zI_lt (by omega) (by omega)] | rw [zI_le (by omega) (by omega)] | rw [zI_eq (by omega) (by omega)]); try omega)) ?_
        unfold pX12_next_110
        rw [e1]
        have e0 : ck v p (k + 1) = 0 := by unfold ck; rw [if_neg (by omega)]
        rw [e0] at rcq
        exact rcq
      · refine brF (by ((try simp only [zI_lit, zI_neg, zI_add, zI_sub, zI_mul, zI_n, ne_eq]) <;> (first | rw [zI_lt (by omega) (by omega)] | rw [zI_le (by omega) (by omega)] | rw [zI_eq (by omega) (by omega)]); try omega)) (m_here ht hT hv hi (fun z => absurd z (by omega)) (fun _ => ?_))
        unfold pX12_next_110
        rw [e1, euv]
        have e0 : ck v p (k + 1) = 27 * ck v p k + v (p + k) - 96 := by unfold ck; rw [if_pos (by omega), if_pos (by omega)]; rfl
        rw [e0] at rcq
        rw [show (27 : Int32) * zI (ck v p k) + zI (v (p + k)) - 96 = zI (27 * ck v p k + v (p + k) - 96) by ((try simp only [zI_lit, zI_neg, zI_add, zI_sub, zI_mul, zI_n]) <;> (first | rfl | (refine zI_eqI ?_; omega)))]
        exact rcq
    · rw [if_neg (fun z => g (eu.2 (isA_i.1 z))), show p + k - p = k by omega] at hk
      exact hk
theorem m_n164 (ht : t ≤ 200) (hT : ∀ i, i < t → T i = zI (v i)) (hv : ∀ i, i < t → -128 ≤ v i ∧ v i ≤ 127) {p : Nat} {b : Int32} {kx : Int32 → Int32 → Int32 → Int32 → Prop} : ∀ (n k : Nat) (V : Int32), p + k ≤ t → n = t - (p + k) → (k ≤ 2 → V = zI (nm v p k)) → (∀ V' : Int32, (run (isN v) n (p + k) - p ≤ 2 → V' = zI (nm v p (run (isN v) n (p + k) - p))) → kx (zI (run (isN v) n (p + k))) (zI p) b V') → pX12_next_164 (zI t) T kx (n + 1) (zI ((p + k : Nat) : Int)) (zI p) b V
  | 0, k, V, hi, hn, hV, hk => by
    have e : run (isN v) 0 (p + k) = p + k := rfl
    rw [e, show p + k - p = k by omega] at hk
    exact m_here ht hT hv hi (fun _ => m_wi (b := 48) (c := 57) rfl rfl (by omega) (by omega) (by omega) (fun z => absurd z (by omega)) (fun _ => br0 (hk V hV))) (fun z => absurd z (by omega))
  | n + 1, k, V, hi, hn, hV, hk => by
    have e1 : zI ((p + k : Nat) : Int) + 1 = zI ((p + (k + 1) : Nat) : Int) := by ((try simp only [zI_lit, zI_neg, zI_add, zI_sub, zI_mul, zI_n]) <;> (first | rfl | (refine zI_eqI ?_; omega)))
    unfold run at hk
    refine m_here ht hT hv hi (fun z => absurd z (by omega)) (fun z => ?_)
    have hvi := hv (p + k) z
    have bu : 0 ≤ uv (v (p + k)) ∧ uv (v (p + k)) ≤ 255 := by unfold uv; split <;> omega
    have eu : 48 ≤ uv (v (p + k)) ∧ uv (v (p + k)) ≤ 57 ↔ 48 ≤ v (p + k) ∧ v (p + k) ≤ 57 := by unfold uv; split <;> omega
    refine m_wi (b := 48) (c := 57) rfl rfl (by omega) (by omega) (by omega) (fun g => br1 ?_) (fun g => br0 ?_)
    · have g' := eu.1 g
      have euv : uv (v (p + k)) = v (p + k) := by unfold uv; split <;> omega
      rw [if_pos (isN_i.2 g')] at hk
      have rcq := fun V1 h1 => m_n164 ht hT hv (p := p) (b := b) (kx := kx) n (k + 1) V1 (by omega) (by omega) h1 hk
      by_cases d : 2 ≤ k
      · refine brT (by ((try simp only [zI_lit, zI_neg, zI_add, zI_sub, zI_mul, zI_n, ne_eq]) <;> (first | rw [zI_lt (by omega) (by omega)] | rw [zI_le (by omega) (by omega)] | rw [zI_eq (by omega) (by omega)]); try omega)) ?_
        unfold pX12_next_211
        rw [e1]
        exact rcq _ (fun z => absurd z (by omega))
      · refine brF (by ((try simp only [zI_lit, zI_neg, zI_add, zI_sub, zI_mul, zI_n, ne_eq]) <;> (first | rw [zI_lt (by omega) (by omega)] | rw [zI_le (by omega) (by omega)] | rw [zI_eq (by omega) (by omega)]); try omega)) (m_here ht hT hv hi (fun z => absurd z (by omega)) (fun _ => ?_))
        unfold pX12_next_211
        rw [e1, euv, hV (by omega)]
        refine rcq _ (fun _ => ?_)
        show _ = zI (10 * nm v p k + v (p + k) - 48)
        ((try simp only [zI_lit, zI_neg, zI_add, zI_sub, zI_mul, zI_n]) <;> (first | rfl | (refine zI_eqI ?_; omega)))
    · rw [if_neg (fun z => g (eu.2 (isN_i.1 z))), show p + k - p = k by omega] at hk
      exact hk V hV
theorem m_mean {c : Int} (hc : 0 ≤ c ∧ c ≤ 387420489) {k : Int32 → Prop} (hk : k (zI (mg c))) : pX12_meaning (zI c) k := by
  unfold pX12_meaning
  unfold mg at hk
  refine ⟨fun e => ?_, fun e => ?_, fun e => ?_, fun e => ?_, fun e => ?_, fun e => ?_, fun a0 a1 a2 a3 a4 a5 => ?_⟩
  · simp only [zI_lit] at e; rw [zI_eq (by omega) (by omega)] at e
    rw [if_neg (by omega), if_neg (by omega), if_neg (by omega), if_neg (by omega), if_pos e] at hk; exact hk
  · simp only [zI_lit] at e; rw [zI_eq (by omega) (by omega)] at e
    rw [if_pos e] at hk; exact hk
  · simp only [zI_lit] at e; rw [zI_eq (by omega) (by omega)] at e
    rw [if_neg (by omega), if_neg (by omega), if_pos e] at hk; exact hk
  · simp only [zI_lit] at e; rw [zI_eq (by omega) (by omega)] at e
    rw [if_neg (by omega), if_neg (by omega), if_neg (by omega), if_pos e] at hk; exact hk
  · simp only [zI_lit] at e; rw [zI_eq (by omega) (by omega)] at e
    rw [if_neg (by omega), if_neg (by omega), if_neg (by omega), if_neg (by omega), if_neg (by omega), if_pos e] at hk; exact hk
  · simp only [zI_lit] at e; rw [zI_eq (by omega) (by omega)] at e
    rw [if_neg (by omega), if_pos e] at hk; exact hk
  · simp only [zI_lit] at a0 a1 a2 a3 a4 a5
    rw [zI_eq (by omega) (by omega)] at a0 a1 a2 a3 a4 a5
    rw [if_neg (by omega), if_neg (by omega), if_neg (by omega), if_neg (by omega), if_neg (by omega), if_neg (by omega)] at hk; exact hk
/-- what the reference holds behind next() at place i -/
def MS (v : Nat → Int) (t i : Nat) (at_ st so va : Int32) : Prop := (qs v t i ≠ 0 → at_ = zI (qe v t i)) ∧ st = zI (qp v t i) ∧ so = zI (qm v t i) ∧ (qs v t i = 2 → va = zI (qn v t i))
theorem m_next (ht : t ≤ 200) (hT : ∀ i, i < t → T i = zI (v i)) (hv : ∀ i, i < t → -128 ≤ v i ∧ v i ≤ 127) {i : Nat} (hi : i ≤ t) {I a b c : Int32} (eI : I = zI i) {k : Int32 → Int32 → Int32 → Int32 → Prop} (hk : ∀ a' st so va, MS v t i a' st so va → k a' st so va) : pX12_next (zI t) I a b c T k := by
  have hp := qp_b v hi
  have e1 : zI (qp v t i : Int) + 1 = zI ((qp v t i + 1 : Nat) : Int) := by ((try simp only [zI_lit, zI_neg, zI_add, zI_sub, zI_mul, zI_n]) <;> (first | rfl | (refine zI_eqI ?_; omega)))
  unfold pX12_next
  rw [eI]
  refine ⟨_, m_n0 ht hT hv (t - i) i hi rfl ?_⟩
  rw [show run (isS v) (t - i) i = qp v t i from rfl]
  refine m_here ht hT hv hp.2 (fun c => ?_) (fun c => ?_)
  · have e := (qs_0 (v := v) (i := i)).2 c
    refine brF (by decide) (hk _ _ _ _ ⟨fun z => absurd e z, rfl, ?_, fun z => absurd e (by omega)⟩)
    unfold qm
    rw [if_pos e]; rfl
  · have hvp := hv (qp v t i) c
    have c' : ¬ t ≤ qp v t i := by omega
    have bu : 0 ≤ uv (v (qp v t i)) ∧ uv (v (qp v t i)) ≤ 255 := by unfold uv; split <;> omega
    have eA : 97 ≤ uv (v (qp v t i)) ∧ uv (v (qp v t i)) ≤ 122 ↔ 97 ≤ v (qp v t i) ∧ v (qp v t i) ≤ 122 := by unfold uv; split <;> omega
    have eN : 48 ≤ uv (v (qp v t i)) ∧ uv (v (qp v t i)) ≤ 57 ↔ 48 ≤ v (qp v t i) ∧ v (qp v t i) ≤ 57 := by unfold uv; split <;> omega
    have eS : uv (v (qp v t i)) = 59 ↔ v (qp v t i) = 59 := by unfold uv; split <;> omega
    refine brT (by ((try simp only [zI_lit, zI_neg, zI_add, zI_sub, zI_mul, zI_n, ne_eq]) <;> (first | rw [zI_lt (by omega) (by omega)] | rw [zI_le (by omega) (by omega)] | rw [zI_eq (by omega) (by omega)]); try omega)) (m_wi (b := 97) (c := 122) rfl rfl (by omega) (by omega) (by omega) (fun g => br1 ?_) (fun g => br0 ?_))
    · have aa := isA_i.2 (eA.1 g)
      have e : qs v t i = 1 := by unfold qs; rw [if_neg c', if_pos aa]
      have hA := qA hi e
      have he := qe_b v hi (by omega)
      have er : run (isA v) (t - (qp v t i + 0)) (qp v t i + 0) = qe v t i := by
        unfold qe
        rw [if_pos aa, show t - (qp v t i + 0) = (t - (qp v t i + 1)) + 1 by omega]
        show (if isA v (qp v t i + 0) = true then run (isA v) (t - (qp v t i + 1)) (qp v t i + 0 + 1) else qp v t i + 0) = _
        exact if_pos (show isA v (qp v t i + 0) = true from aa)
      have bc := ck_b hA (k := qe v t i - qp v t i) (Nat.le_refl _)
      have fin : ∀ V : Int32, k (zI (qe v t i)) (zI (qp v t i)) (zI (wd v t i)) V := fun V => hk _ _ _ _ ⟨fun _ => rfl, rfl, by unfold qm; rw [if_neg (by omega), if_pos e], fun z => absurd e (by omega)⟩
      refine ⟨_, m_n66 (p := qp v t i) ht hT hv (t - (qp v t i + 0)) 0 (by omega) rfl ?_⟩
      rw [er]
      by_cases d : qe v t i - qp v t i ≤ 6
      · exact brT (by ((try simp only [zI_lit, zI_neg, zI_add, zI_sub, zI_mul, zI_n, ne_eq]) <;> (first | rw [zI_lt (by omega) (by omega)] | rw [zI_le (by omega) (by omega)] | rw [zI_eq (by omega) (by omega)]); try omega)) (m_mean bc (fin _))
      · refine brF (by ((try simp only [zI_lit, zI_neg, zI_add, zI_sub, zI_mul, zI_n, ne_eq]) <;> (first | rw [zI_lt (by omega) (by omega)] | rw [zI_le (by omega) (by omega)] | rw [zI_eq (by omega) (by omega)]); try omega)) ?_
        have e0 : ck v (qp v t i) (qe v t i - qp v t i) = 0 := by unfold ck; rw [if_neg d]
        have f0 := fin 0
        unfold wd at f0
        rw [e0] at f0
        exact m_mean (c := 0) (by omega) f0
    · have aa : ¬ isA v (qp v t i) = true := fun z => g (eA.2 (isA_i.1 z))
      refine m_wi (b := 48) (c := 57) rfl rfl (by omega) (by omega) (by omega) (fun g2 => br1 ?_) (fun g2 => br0 ?_)
      · have bb := isN_i.2 (eN.1 g2)
        have er : run (isN v) (t - (qp v t i + 0)) (qp v t i + 0) = qe v t i := by
          unfold qe
          rw [if_neg aa, if_pos bb, show t - (qp v t i + 0) = (t - (qp v t i + 1)) + 1 by omega]
          show (if isN v (qp v t i + 0) = true then run (isN v) (t - (qp v t i + 1)) (qp v t i + 0 + 1) else qp v t i + 0) = _
          exact if_pos (show isN v (qp v t i + 0) = true from bb)
        have rb := run_b (isN v) (t - (qp v t i + 0)) (qp v t i + 0)
        rw [er] at rb
        refine ⟨_, m_n164 (p := qp v t i) ht hT hv (t - (qp v t i + 0)) 0 0 (by omega) rfl (fun _ => rfl) (fun V hV => ?_)⟩
        rw [er] at hV ⊢
        by_cases d : qe v t i ≤ qp v t i + 2
        · have e : qs v t i = 2 := by unfold qs; rw [if_neg c', if_neg aa, if_pos bb, if_pos d]
          refine brT (by ((try simp only [zI_lit, zI_neg, zI_add, zI_sub, zI_mul, zI_n, ne_eq]) <;> (first | rw [zI_lt (by omega) (by omega)] | rw [zI_le (by omega) (by omega)] | rw [zI_eq (by omega) (by omega)]); try omega)) (hk _ _ _ _ ⟨fun _ => rfl, rfl, ?_, fun _ => hV (by omega)⟩)
          unfold qm
          rw [if_neg (by omega), if_neg (by omega), if_pos e]; rfl
        · have e : qs v t i = 4 := by unfold qs; rw [if_neg c', if_neg aa, if_pos bb, if_neg d]
          refine brF (by ((try simp only [zI_lit, zI_neg, zI_add, zI_sub, zI_mul, zI_n, ne_eq]) <;> (first | rw [zI_lt (by omega) (by omega)] | rw [zI_le (by omega) (by omega)] | rw [zI_eq (by omega) (by omega)]); try omega)) (hk _ _ _ _ ⟨fun _ => rfl, rfl, ?_, fun z => absurd e (by omega)⟩)
          unfold qm
          rw [if_neg (by omega), if_neg (by omega), if_neg (by omega), if_neg (by omega)]; rfl
      · have bb : ¬ isN v (qp v t i) = true := fun z => g2 (eN.2 (isN_i.1 z))
        have ee : qe v t i = qp v t i + 1 := by unfold qe; rw [if_neg aa, if_neg bb]
        rw [e1]
        by_cases d : v (qp v t i) = 59
        · have e : qs v t i = 3 := by unfold qs; rw [if_neg c', if_neg aa, if_neg bb, if_pos d]
          have := eS.2 d
          refine brT (by ((try simp only [zI_lit, zI_neg, zI_add, zI_sub, zI_mul, zI_n, ne_eq]) <;> (first | rw [zI_lt (by omega) (by omega)] | rw [zI_le (by omega) (by omega)] | rw [zI_eq (by omega) (by omega)]); try omega)) (hk _ _ _ _ ⟨fun _ => by rw [ee], rfl, ?_, fun z => absurd e (by omega)⟩)
          unfold qm
          rw [if_neg (by omega), if_neg (by omega), if_neg (by omega), if_pos e]; rfl
        · have e : qs v t i = 4 := by unfold qs; rw [if_neg c', if_neg aa, if_neg bb, if_neg d]
          have : ¬ uv (v (qp v t i)) = 59 := fun z => d (eS.1 z)
          refine brF (by ((try simp only [zI_lit, zI_neg, zI_add, zI_sub, zI_mul, zI_n, ne_eq]) <;> (first | rw [zI_lt (by omega) (by omega)] | rw [zI_le (by omega) (by omega)] | rw [zI_eq (by omega) (by omega)]); try omega)) (hk _ _ _ _ ⟨fun _ => by rw [ee], rfl, ?_, fun z => absurd e (by omega)⟩)
          unfold qm
          rw [if_neg (by omega), if_neg (by omega), if_neg (by omega), if_neg (by omega)]; rfl
end NM
