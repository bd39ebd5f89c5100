/-! turns: each chooses, from the last back -/
def bd (R : Nat → Int) (E : Int → Int) (h : Int) : Int := if 0 < h ∧ ab (E (h - 1) - R 3) < ab (E h - R 3) then (if (R 2 = 1 ∧ h < 30) ∧ ab (E (h + 1) - R 3) < ab (E (h - 1) - R 3) then 1 else -1) else (if (R 2 = 1 ∧ h < 30) ∧ ab (E (h + 1) - R 3) < ab (E h - R 3) then 1 else 0)
theorem bd_b {R : Nat → Int} {E : Int → Int} {h : Int} (hh : 0 ≤ h ∧ h ≤ 30) : (-1 ≤ bd R E h ∧ bd R E h ≤ 1) ∧ 0 ≤ h + bd R E h ∧ h + bd R E h ≤ 30 := by
  unfold bd
  repeat' split
  all_goals omega
def te (P : Nat → Nat → Int) (n : Nat) : Nat → Int → Int
  | 0, h => h
  | j + 1, h => te P n j (h + bd (P (n - (j + 1))) (te P n j) h)
theorem te_b (P : Nat → Nat → Int) (n : Nat) : ∀ (j : Nat) (h : Int), 0 ≤ h ∧ h ≤ 30 → 0 ≤ te P n j h ∧ te P n j h ≤ 30
  | 0, _, a => a
  | j + 1, h, a => te_b P n j _ (@bd_b (P (n - (j + 1))) (te P n j) h a).2
def tH (P : Nat → Nat → Int) (n : Nat) (h : Int) : Nat → Int
  | 0 => h
  | i + 1 => tH P n h i + bd (P i) (te P n (n - 1 - i)) (tH P n h i)
theorem tH_b (P : Nat → Nat → Int) (n : Nat) (h : Int) (hh : 0 ≤ h ∧ h ≤ 30) : ∀ i : Nat, 0 ≤ tH P n h i ∧ tH P n h i ≤ 30
  | 0 => hh
  | i + 1 => (@bd_b (P i) (te P n (n - 1 - i)) _ (tH_b P n h hh i)).2
theorem tH_te (P : Nat → Nat → Int) (n : Nat) (h : Int) : ∀ i : Nat, i ≤ n → te P n (n - i) (tH P n h i) = te P n n h
  | 0, _ => rfl
  | i + 1, hi => by
    have ih := tH_te P n h i (by omega)
    rw [show n - i = (n - 1 - i) + 1 by omega] at ih
    show te P n (n - (i + 1)) (tH P n h i + bd (P i) (te P n (n - 1 - i)) (tH P n h i)) = _
    rw [← ih, show n - (i + 1) = n - 1 - i by omega]
    show _ = te P n (n - 1 - i) (tH P n h i + bd (P (n - (n - 1 - i + 1))) (te P n (n - 1 - i)) (tH P n h i))
    rw [show n - (n - 1 - i + 1) = i by omega]
theorem tH_end (P : Nat → Nat → Int) (n : Nat) (h : Int) : tH P n h n = te P n n h := by
  have q := tH_te P n h n (Nat.le_refl n)
  rw [Nat.sub_self] at q
  exact q
section TX
variable {np : Nat} {cells : Nat → Int32} {P : Nat → Nat → Int} {E : Int → Int} {L : Nat → Int32}
theorem x_eF (hL : ∀ q : Nat, q ≤ 30 → L q = zI (E q)) {h : Int} (hh : 0 ≤ h ∧ h ≤ 30) {k : Int32 → Prop} (hk : k (zI (E h))) : pX11_endFrom L (zI h) k := by
  unfold pX11_endFrom
  refine x_hi (by omega) (fun g => br1 ⟨by ((try simp only [zI_lit, zI_neg, zI_add, zI_sub, zI_mul, zI_n]); rw [zI_in (by omega)]; omega), ?_⟩) (fun g => absurd hh g)
  rw [zI_clamp (by omega), hL _ (by omega), Int.toNat_of_nonneg hh.1]
  exact hk
theorem x_bd (hx : rowsIn 6 np 0 cells P) (hP : okP np P) (hE : ∀ z : Int, 0 ≤ z ∧ z ≤ 30 → 0 ≤ E z ∧ E z ≤ 30) (hL : ∀ q : Nat, q ≤ 30 → L q = zI (E q)) {p : Nat} (hp : p < np) {h : Int} (hh : 0 ≤ h ∧ h ≤ 30) {k : Int32 → Prop} (hk : k (zI (bd (P p) E h))) : pX11_bestDeed cells L (zI p) (zI h) k := by
  have h12 := hP.1
  obtain ⟨o1, o2, o3, o4, o5⟩ := hP.2.1 p hp
  have b0 := hE h hh
  have a0 : 0 ≤ ab (E h - P p 3) ∧ ab (E h - P p 3) ≤ 30 := ⟨ab_n _, ab_b (by omega)⟩
  have sec : ∀ (B : Int32) (f : Int), 0 ≤ f ∧ f ≤ 30 → ((P p 2 = 1 ∧ h < 30) ∧ ab (E (h + 1) - P p 3) < f → k 1) → (¬ ((P p 2 = 1 ∧ h < 30) ∧ ab (E (h + 1) - P p 3) < f) → k B) → pX11_bestDeed_66 cells L k (zI p) (zI h) (zI (P p 3)) B (zI f) := fun B f hf k1 k0 => by
    unfold pX11_bestDeed_66
    refine x_p hx h12 hp 2 rfl (by omega) ?_
    have no : ¬ (P p 2 = 1 ∧ h < 30) → pX11_bestDeed_92 L k (zI h) (zI (P p 3)) B (zI f) := fun g => by
      unfold pX11_bestDeed_92 pX11_bestDeed_93
      exact br0 (k0 (fun z => g z.1))
    by_cases g1 : P p 2 = 1
    · refine brT (by ((try simp only [zI_lit, zI_neg, zI_add, zI_sub, zI_mul, zI_n, ne_eq]) <;> (first | rw [zI_lt (by omega) (by omega)] | rw [zI_le (by omega) (by omega)] | rw [zI_eq (by omega) (by omega)]); try omega)) ?_
      by_cases g2 : h < 30
      · refine brF (by ((try simp only [zI_lit, zI_neg, zI_add, zI_sub, zI_mul, zI_n, ne_eq]) <;> (first | rw [zI_lt (by omega) (by omega)] | rw [zI_le (by omega) (by omega)] | rw [zI_eq (by omega) (by omega)]); try omega)) ?_
        unfold pX11_bestDeed_93
        refine br1 ?_
        have b2 := hE (h + 1) (by omega)
        have a2 : 0 ≤ ab (E (h + 1) - P p 3) ∧ ab (E (h + 1) - P p 3) ≤ 30 := ⟨ab_n _, ab_b (by omega)⟩
        rw [show zI h + 1 = zI (h + 1) by ((try simp only [zI_lit, zI_neg, zI_add, zI_sub, zI_mul, zI_n]) <;> (first | rfl | (refine zI_eqI ?_; omega)))]
        refine x_eF hL (by omega) ?_
        rw [zI_sub, x_ab (by omega)]
        by_cases g3 : ab (E (h + 1) - P p 3) < f
        · exact brF (by ((try simp only [zI_lit, zI_neg, zI_add, zI_sub, zI_mul, zI_n, ne_eq]) <;> (first | rw [zI_lt (by omega) (by omega)] | rw [zI_le (by omega) (by omega)] | rw [zI_eq (by omega) (by omega)]); try omega)) (k1 ⟨⟨g1, g2⟩, g3⟩)
        · exact brT (by ((try simp only [zI_lit, zI_neg, zI_add, zI_sub, zI_mul, zI_n, ne_eq]) <;> (first | rw [zI_lt (by omega) (by omega)] | rw [zI_le (by omega) (by omega)] | rw [zI_eq (by omega) (by omega)]); try omega)) (k0 (fun z => g3 z.2))
      · exact brT (by ((try simp only [zI_lit, zI_neg, zI_add, zI_sub, zI_mul, zI_n, ne_eq]) <;> (first | rw [zI_lt (by omega) (by omega)] | rw [zI_le (by omega) (by omega)] | rw [zI_eq (by omega) (by omega)]); try omega)) (no (fun z => g2 z.2))
    · exact brF (by ((try simp only [zI_lit, zI_neg, zI_add, zI_sub, zI_mul, zI_n, ne_eq]) <;> (first | rw [zI_lt (by omega) (by omega)] | rw [zI_le (by omega) (by omega)] | rw [zI_eq (by omega) (by omega)]); try omega)) (no (fun z => g1 z.1))
  unfold pX11_bestDeed
  refine x_p hx h12 hp 3 rfl (by omega) (x_eF hL hh ?_)
  rw [zI_sub, x_ab (by omega)]
  unfold bd at hk
  by_cases g : 0 < h
  · have b1 := hE (h - 1) (by omega)
    have a1 : 0 ≤ ab (E (h - 1) - P p 3) ∧ ab (E (h - 1) - P p 3) ≤ 30 := ⟨ab_n _, ab_b (by omega)⟩
    refine brF (by ((try simp only [zI_lit, zI_neg, zI_add, zI_sub, zI_mul, zI_n, ne_eq]) <;> (first | rw [zI_lt (by omega) (by omega)] | rw [zI_le (by omega) (by omega)] | rw [zI_eq (by omega) (by omega)]); try omega)) ?_
    rw [show zI h - 1 = zI (h - 1) by ((try simp only [zI_lit, zI_neg, zI_add, zI_sub, zI_mul, zI_n]) <;> (first | rfl | (refine zI_eqI ?_; omega)))]
    refine x_eF hL (by omega) ?_
    rw [zI_sub, x_ab (by omega)]
    by_cases g2 : ab (E (h - 1) - P p 3) < ab (E h - P p 3)
    · rw [if_pos ⟨g, g2⟩] at hk
      refine brF (by ((try simp only [zI_lit, zI_neg, zI_add, zI_sub, zI_mul, zI_n, ne_eq]) <;> (first | rw [zI_lt (by omega) (by omega)] | rw [zI_le (by omega) (by omega)] | rw [zI_eq (by omega) (by omega)]); try omega)) (x_eF hL (by omega) ?_)
      rw [zI_sub, x_ab (by omega)]
      refine sec _ _ a1 (fun z => ?_) (fun z => ?_)
      · rw [if_pos z] at hk; exact hk
      · rw [if_neg z] at hk; exact hk
    · rw [if_neg (fun z => g2 z.2)] at hk
      refine brT (by ((try simp only [zI_lit, zI_neg, zI_add, zI_sub, zI_mul, zI_n, ne_eq]) <;> (first | rw [zI_lt (by omega) (by omega)] | rw [zI_le (by omega) (by omega)] | rw [zI_eq (by omega) (by omega)]); try omega)) (sec _ _ a0 (fun z => ?_) (fun z => ?_))
      · rw [if_pos z] at hk; exact hk
      · rw [if_neg z] at hk; exact hk
  · rw [if_neg (fun z => g z.1)] at hk
    refine brT (by ((try simp only [zI_lit, zI_neg, zI_add, zI_sub, zI_mul, zI_n, ne_eq]) <;> (first | rw [zI_lt (by omega) (by omega)] | rw [zI_le (by omega) (by omega)] | rw [zI_eq (by omega) (by omega)]); try omega)) (sec _ _ a0 (fun z => ?_) (fun z => ?_))
    · rw [if_pos z] at hk; exact hk
    · rw [if_neg z] at hk; exact hk
theorem x_ch45 (hx : rowsIn 6 np 0 cells P) (hP : okP np P) (hE : ∀ z : Int, 0 ≤ z ∧ z ≤ 30 → 0 ≤ E z ∧ E z ≤ 30) (hL : ∀ q : Nat, q ≤ 30 → L q = zI (E q)) {p : Nat} (hp : p < np) {kx : Int32 → (Nat → Int32) → (Nat → Int32) → (Nat → Int32) → Prop} : ∀ (j i : Nat) (Ch En : Nat → Int32), i + j = 31 → (∀ Ch' En' : Nat → Int32, (∀ q : Nat, i ≤ q → q < 31 → Ch' (31 * p + q) = zI (bd (P p) E q)) → (∀ q : Nat, i ≤ q → q < 31 → En' q = zI (E (q + bd (P p) E q))) → (∀ q, 31 * p + 31 ≤ q ∨ q < 31 * p + i → Ch' q = Ch q) → (∀ q, q < i → En' q = En q) → kx (zI p) Ch' En' L) → pX11_chooseFromTheLast_45 cells kx (j + 1) (zI p) (zI i) Ch En L
  | 0, i, Ch, En, hi, hk => brT (by ((try simp only [zI_lit, zI_neg, zI_add, zI_sub, zI_mul, zI_n, ne_eq]) <;> (first | rw [zI_lt (by omega) (by omega)] | rw [zI_le (by omega) (by omega)] | rw [zI_eq (by omega) (by omega)]); try omega)) (hk Ch En (fun q a b => absurd b (by omega)) (fun q a b => absurd b (by omega)) (fun _ _ => rfl) (fun _ _ => rfl))
  | j + 1, i, Ch, En, hi, hk => by
    have h12 := hP.1
    have bb := @bd_b (P p) E (i : Int) (by omega)
    have e1 : zI (i : Int) + 1 = zI ((i + 1 : Nat) : Int) := by ((try simp only [zI_lit, zI_neg, zI_add, zI_sub, zI_mul, zI_n]) <;> (first | rfl | (refine zI_eqI ?_; omega)))
    have e2 : (zI (p : Int) * 31 + zI (i : Int)).toNatClampNeg = 31 * p + i := by ((try simp only [zI_lit, zI_neg, zI_add, zI_sub, zI_mul, zI_n]); rw [zI_clamp (by omega)]; omega)
    have e3 : (zI (i : Int)).toNatClampNeg = i := by ((try simp only [zI_lit, zI_neg, zI_add, zI_sub, zI_mul, zI_n]); rw [zI_clamp (by omega)]; omega)
    refine brF (by ((try simp only [zI_lit, zI_neg, zI_add, zI_sub, zI_mul, zI_n, ne_eq]) <;> (first | rw [zI_lt (by omega) (by omega)] | rw [zI_le (by omega) (by omega)] | rw [zI_eq (by omega) (by omega)]); try omega)) (x_bd hx hP hE hL hp (by omega) ⟨by ((try simp only [zI_lit, zI_neg, zI_add, zI_sub, zI_mul, zI_n]); rw [zI_in (by omega)]; omega), ?_⟩)
    rw [zI_add]
    refine x_eF hL bb.2 ⟨by ((try simp only [zI_lit, zI_neg, zI_add, zI_sub, zI_mul, zI_n]); rw [zI_in (by omega)]; omega), ?_⟩
    rw [e1, e2, e3]
    refine x_ch45 hx hP hE hL hp j (i + 1) _ _ (by omega) (fun Ch' En' f1 f2 f3 f4 => hk Ch' En' (fun q a b => ?_) (fun q a b => ?_) (fun q a => ?_) (fun q a => ?_))
    · by_cases c : q = i
      · rw [c, f3 _ (by omega), upd_s]
      · exact f1 q (by omega) b
    · by_cases c : q = i
      · rw [c, f4 _ (by omega), upd_s]
      · exact f2 q (by omega) b
    · rw [f3 q (by omega), upd_n _ _ (by omega)]
    · rw [f4 q (by omega), upd_n _ _ (by omega)]
theorem x_ch39 (hx : rowsIn 6 np 0 cells P) (hP : okP np P) {kx : (Nat → Int32) → (Nat → Int32) → (Nat → Int32) → Prop} (hk : ∀ Ch' En' L' : Nat → Int32, (∀ p q : Nat, p < np → q < 31 → Ch' (31 * p + q) = zI (bd (P p) (te P np (np - 1 - p)) q)) → kx Ch' En' L') : ∀ (m : Nat) (Ch En L : Nat → Int32), m ≤ np → (∀ q : Nat, q ≤ 30 → L q = zI (te P np (np - m) q)) → (∀ p q : Nat, m ≤ p → p < np → q < 31 → Ch (31 * p + q) = zI (bd (P p) (te P np (np - 1 - p)) q)) → pX11_chooseFromTheLast_39 cells kx (m + 1) (zI ((m : Int) - 1)) Ch En L
  | 0, Ch, En, L, hm, hL, hC => brT (by ((try simp only [zI_lit, zI_neg, zI_add, zI_sub, zI_mul, zI_n, ne_eq]) <;> (first | rw [zI_lt (by omega) (by omega)] | rw [zI_le (by omega) (by omega)] | rw [zI_eq (by omega) (by omega)]); try omega)) (hk Ch En L (fun p q a b => hC p q (by omega) a b))
  | m + 1, Ch, En, L, hm, hL, hC => by
    have h12 := hP.1
    rw [show (((m + 1 : Nat) : Int) - 1) = (m : Int) by omega]
    refine brF (by ((try simp only [zI_lit, zI_neg, zI_add, zI_sub, zI_mul, zI_n, ne_eq]) <;> (first | rw [zI_lt (by omega) (by omega)] | rw [zI_le (by omega) (by omega)] | rw [zI_eq (by omega) (by omega)]); try omega)) ⟨32, x_ch45 hx hP (te_b P np (np - (m + 1))) hL (by omega) 31 0 Ch En (by omega) (fun Ch' En' f1 f2 f3 f4 => ?_)⟩
    rw [show zI (m : Int) + -1 = zI ((m : Int) - 1) by ((try simp only [zI_lit, zI_neg, zI_add, zI_sub, zI_mul, zI_n]) <;> (first | rfl | (refine zI_eqI ?_; omega)))]
    refine x_ch39 hx hP hk m Ch' En' _ (by omega) (fun q hq => ?_) (fun p q a b c => ?_)
    · rw [c0, show ((31 : Int32)).toNatClampNeg = 31 by decide]
      show (if 0 ≤ q ∧ q < 0 + 31 then En' (0 + (q - 0)) else L q) = _
      rw [if_pos (by omega), show 0 + (q - 0) = q by omega, f2 q (by omega) (by omega), show np - m = (np - (m + 1)) + 1 by omega]
      show _ = zI (te P np (np - (m + 1)) (q + bd (P (np - (np - (m + 1) + 1))) (te P np (np - (m + 1))) q))
      rw [show np - (np - (m + 1) + 1) = m by omega]
    · by_cases d : p = m
      · rw [d, f1 q (by omega) c, show np - 1 - m = np - (m + 1) by omega]
      · rw [f3 _ (by omega)]
        exact hC p q (by omega) b c
theorem x_ch2 {kx : (Nat → Int32) → (Nat → Int32) → (Nat → Int32) → Prop} {Ch En : Nat → Int32} : ∀ (j i : Nat) (L : Nat → Int32), i + j = 31 → (∀ L' : Nat → Int32, (∀ q : Nat, i ≤ q → q ≤ 30 → L' q = zI q) → (∀ q, q < i → L' q = L q) → kx Ch En L') → pX11_chooseFromTheLast_2 kx (j + 1) (zI i) Ch En L
  | 0, i, L, hi, hk => brT (by ((try simp only [zI_lit, zI_neg, zI_add, zI_sub, zI_mul, zI_n, ne_eq]) <;> (first | rw [zI_lt (by omega) (by omega)] | rw [zI_le (by omega) (by omega)] | rw [zI_eq (by omega) (by omega)]); try omega)) (hk L (fun q a b => absurd b (by omega)) (fun _ _ => rfl))
  | j + 1, i, L, hi, hk => by
    have e1 : zI (i : Int) + 1 = zI ((i + 1 : Nat) : Int) := by ((try simp only [zI_lit, zI_neg, zI_add, zI_sub, zI_mul, zI_n]) <;> (first | rfl | (refine zI_eqI ?_; omega)))
    have e3 : (zI (i : Int)).toNatClampNeg = i := by ((try simp only [zI_lit, zI_neg, zI_add, zI_sub, zI_mul, zI_n]); rw [zI_clamp (by omega)]; omega)
    refine brF (by ((try simp only [zI_lit, zI_neg, zI_add, zI_sub, zI_mul, zI_n, ne_eq]) <;> (first | rw [zI_lt (by omega) (by omega)] | rw [zI_le (by omega) (by omega)] | rw [zI_eq (by omega) (by omega)]); try omega)) ⟨by ((try simp only [zI_lit, zI_neg, zI_add, zI_sub, zI_mul, zI_n]); rw [zI_in (by omega)]; omega), ?_⟩
    rw [e1, e3]
    refine x_ch2 j (i + 1) _ (by omega) (fun L' f1 f2 => hk L' (fun q a b => ?_) (fun q a => ?_))
    · by_cases c : q = i
      · rw [c, f2 _ (by omega), upd_s]
      · exact f1 q (by omega) b
    · rw [f2 q (by omega), upd_n _ _ (by omega)]
theorem x_choose (hx : rowsIn 6 np 0 cells P) (hP : okP np P) {Ch En L : Nat → Int32} {k : (Nat → Int32) → (Nat → Int32) → (Nat → Int32) → Prop} (hk : ∀ Ch' En' L' : Nat → Int32, (∀ p q : Nat, p < np → q < 31 → Ch' (31 * p + q) = zI (bd (P p) (te P np (np - 1 - p)) q)) → k Ch' En' L') : pX11_chooseFromTheLast (zI np) cells Ch En L k := by
  have h12 := hP.1
  unfold pX11_chooseFromTheLast pX7_size
  refine ⟨32, x_ch2 31 0 L (by omega) (fun L' f1 f2 => ⟨np + 1, ?_⟩)⟩
  rw [show (12 : Int32) = zI 12 from rfl, zI_min (by omega) (by omega), if_neg (by omega), show zI (np : Int) - 1 = zI ((np : Int) - 1) by ((try simp only [zI_lit, zI_neg, zI_add, zI_sub, zI_mul, zI_n]) <;> (first | rfl | (refine zI_eqI ?_; omega)))]
  refine x_ch39 hx hP hk np Ch En L' (by omega) (fun q hq => ?_) (fun p q a b c => absurd b (by omega))
  rw [Nat.sub_self]
  exact f1 q (by omega) hq
theorem x_tu40 (hP : okP np P) {Ch En L : Nat → Int32} {h a : Int} (hh : 0 ≤ h ∧ h ≤ 30) (ha : -1 ≤ a ∧ a < np) (hC : ∀ p q : Nat, p < np → q < 31 → Ch (31 * p + q) = zI (bd (P p) (te P np (np - 1 - p)) q)) {bc : Int32} {k : Int32 → Int32 → (Nat → Int32) → (Nat → Int32) → (Nat → Int32) → Prop} (hk : k (zI (if a = -1 then te P np np h else bd (P a.toNat) (te P np (np - 1 - a.toNat)) (tH P np h a.toNat))) bc Ch En L) : ∀ (j i : Nat), i + j = np → (i : Int) ≤ a ∨ a = -1 → pX11_turns_40 (zI np) k (fun x2 b c e l => k x2 b c e l) (j + 1) (zI a) (zI (tH P np h i)) (zI i) bc Ch En L
  | 0, i, hi, hA => by
    have h12 := hP.1
    rw [if_pos (by omega), ← tH_end] at hk
    rw [show i = np by omega]
    exact brT (by ((try simp only [zI_lit, zI_neg, zI_add, zI_sub, zI_mul, zI_n, ne_eq]) <;> (first | rw [zI_lt (by omega) (by omega)] | rw [zI_le (by omega) (by omega)] | rw [zI_eq (by omega) (by omega)]); try omega)) hk
  | j + 1, i, hi, hA => by
    have h12 := hP.1
    have b := tH_b P np h hh i
    have bb := @bd_b (P i) (te P np (np - 1 - i)) _ b
    have e1 : zI (i : Int) + 1 = zI ((i + 1 : Nat) : Int) := by ((try simp only [zI_lit, zI_neg, zI_add, zI_sub, zI_mul, zI_n]) <;> (first | rfl | (refine zI_eqI ?_; omega)))
    have e2 : (zI (i : Int) * 31 + zI (tH P np h i)).toNatClampNeg = 31 * i + (tH P np h i).toNat := by ((try simp only [zI_lit, zI_neg, zI_add, zI_sub, zI_mul, zI_n]); rw [zI_clamp (by omega)]; omega)
    have e3 := hC i (tH P np h i).toNat (by omega) (by omega)
    rw [Int.toNat_of_nonneg b.1] at e3
    refine brF (by ((try simp only [zI_lit, zI_neg, zI_add, zI_sub, zI_mul, zI_n, ne_eq]) <;> (first | rw [zI_lt (by omega) (by omega)] | rw [zI_le (by omega) (by omega)] | rw [zI_eq (by omega) (by omega)]); try omega)) ?_
    unfold pX11_choiceAt
    refine brF (by ((try simp only [zI_lit, zI_neg, zI_add, zI_sub, zI_mul, zI_n, ne_eq]) <;> (first | rw [zI_lt (by omega) (by omega)] | rw [zI_le (by omega) (by omega)] | rw [zI_eq (by omega) (by omega)]); try omega)) (brF (by ((try simp only [zI_lit, zI_neg, zI_add, zI_sub, zI_mul, zI_n, ne_eq]) <;> (first | rw [zI_lt (by omega) (by omega)] | rw [zI_le (by omega) (by omega)] | rw [zI_eq (by omega) (by omega)]); try omega)) ⟨by ((try simp only [zI_lit, zI_neg, zI_add, zI_sub, zI_mul, zI_n]); rw [zI_in (by omega)]; omega), ?_⟩)
    rw [e2, e3]
    by_cases c : (i : Int) = a
    · refine brT (by rw [c]) ?_
      rw [if_neg (by omega), ← c] at hk
      exact hk
    · refine brF (by ((try simp only [zI_lit, zI_neg, zI_add, zI_sub, zI_mul, zI_n, ne_eq]) <;> (first | rw [zI_lt (by omega) (by omega)] | rw [zI_le (by omega) (by omega)] | rw [zI_eq (by omega) (by omega)]); try omega)) ?_
      rw [e1, zI_add]
      exact x_tu40 hP hh ha hC hk j (i + 1) (by omega) (by omega)
end TX
section TM
variable {np : Nat} {N : Nat → Int32} {P : Nat → Nat → Int} {E : Int → Int}
theorem m_ft9 {kx : Int32 → (Nat → Int32) → (Nat → Int32) → Prop} {Ch : Nat → Int32} (hn : np ≤ 12) : ∀ (j i : Nat) (En : Nat → Int32), i + j = 31 → (∀ En' : Nat → Int32, (∀ q : Nat, i ≤ q → q ≤ 30 → En' (31 * np + q) = zI q) → (∀ q, q < 31 * np + i → En' q = En q) → kx (zI np) Ch En') → pX12_findTurns_9 kx (j + 1) (zI np) (zI i) Ch En
  | 0, i, En, hi, hk => brT (by ((try simp only [zI_lit, zI_neg, zI_add, zI_sub, zI_mul, zI_n, ne_eq]) <;> (first | rw [zI_lt (by omega) (by omega)] | rw [zI_le (by omega) (by omega)] | rw [zI_eq (by omega) (by omega)]); try omega)) (hk En (fun q a b => absurd b (by omega)) (fun _ _ => rfl))
  | j + 1, i, En, hi, hk => by
    have e1 : zI (i : Int) + 1 = zI ((i + 1 : Nat) : Int) := by ((try simp only [zI_lit, zI_neg, zI_add, zI_sub, zI_mul, zI_n]) <;> (first | rfl | (refine zI_eqI ?_; omega)))
    have e3 : ((31 : Int32) * zI (np : Int) + zI (i : Int)).toNatClampNeg = 31 * np + i := by ((try simp only [zI_lit, zI_neg, zI_add, zI_sub, zI_mul, zI_n]); rw [zI_clamp (by omega)]; omega)
    refine brF (by ((try simp only [zI_lit, zI_neg, zI_add, zI_sub, zI_mul, zI_n, ne_eq]) <;> (first | rw [zI_lt (by omega) (by omega)] | rw [zI_le (by omega) (by omega)] | rw [zI_eq (by omega) (by omega)]); try omega)) ⟨by ((try simp only [zI_lit, zI_neg, zI_add, zI_sub, zI_mul, zI_n]); rw [zI_in (by omega)]; omega), ?_⟩
    rw [e1, e3]
    refine m_ft9 hn j (i + 1) _ (by omega) (fun En' f1 f2 => hk En' (fun q a b => ?_) (fun q a => ?_))
    · by_cases c : q = i
      · rw [c, f2 _ (by omega), upd_s]
      · exact f1 q (by omega) b
    · rw [f2 q (by omega), upd_n _ _ (by omega)]
theorem m_ft165 {kb : Int32 → Int32 → Int32 → Int32 → Int32 → Int32 → (Nat → Int32) → (Nat → Int32) → Prop} {x2 x3 x4 x5 x7 : Int32} {Ch En : Nat → Int32} {f g : Int} (hf : 0 ≤ f ∧ f ≤ 30) (hg : 0 ≤ g ∧ g ≤ 30) (k1 : g < f → kb x2 x3 x4 x7 (zI g) (x7 + 2) Ch En) (k0 : ¬ g < f → kb x2 x3 x4 x5 (zI f) (x7 + 2) Ch En) : pX12_findTurns_165 kb x2 x3 x4 x5 (zI f) x7 (zI g) Ch En := by
  unfold pX12_findTurns_165 pX12_findTurns_181
  by_cases c : g < f
  · exact brF (by ((try simp only [zI_lit, zI_neg, zI_add, zI_sub, zI_mul, zI_n, ne_eq]) <;> (first | rw [zI_lt (by omega) (by omega)] | rw [zI_le (by omega) (by omega)] | rw [zI_eq (by omega) (by omega)]); try omega)) (brF (by ((try simp only [zI_lit, zI_neg, zI_add, zI_sub, zI_mul, zI_n, ne_eq]) <;> (first | rw [zI_lt (by omega) (by omega)] | rw [zI_le (by omega) (by omega)] | rw [zI_eq (by omega) (by omega)]); try omega)) (k1 c))
  · exact brT (by ((try simp only [zI_lit, zI_neg, zI_add, zI_sub, zI_mul, zI_n, ne_eq]) <;> (first | rw [zI_lt (by omega) (by omega)] | rw [zI_le (by omega) (by omega)] | rw [zI_eq (by omega) (by omega)]); try omega)) (brT (by ((try simp only [zI_lit, zI_neg, zI_add, zI_sub, zI_mul, zI_n, ne_eq]) <;> (first | rw [zI_lt (by omega) (by omega)] | rw [zI_le (by omega) (by omega)] | rw [zI_eq (by omega) (by omega)]); try omega)) (k0 c))
theorem m_ft85 (hx : rowsIn 6 np (0 + 6) N P) (hP : okP np P) (hE : ∀ z : Int, 0 ≤ z ∧ z ≤ 30 → 0 ≤ E z ∧ E z ≤ 30) {p : Nat} (hp : p < np) {h : Int} (hh : 0 ≤ h ∧ h ≤ 30) {Ch En : Nat → Int32} (hL : ∀ q : Nat, q ≤ 30 → En (31 * p + 31 + q) = zI (E q)) {kx : Int32 → Int32 → Int32 → Int32 → (Nat → Int32) → (Nat → Int32) → Prop} (hk : kx (zI p) (zI (P p 3)) (zI h) (zI (bd (P p) E h)) Ch En) : pX12_findTurns_85 N kx 3 (zI p) (zI (P p 3)) (zI h) 0 (zI (ab (E h - P p 3))) (-1) Ch En := by
  have h12 := hP.1
  obtain ⟨o1, o2, o3, o4, o5⟩ := hP.2.1 p hp
  have b0 := hE h hh
  have a0 : 0 ≤ ab (E h - P p 3) ∧ ab (E h - P p 3) ≤ 30 := ⟨ab_n _, ab_b (by omega)⟩
  have sec : ∀ (B : Int32) (f : Int), 0 ≤ f ∧ f ≤ 30 → ((P p 2 = 1 ∧ h < 30) ∧ ab (E (h + 1) - P p 3) < f → kx (zI p) (zI (P p 3)) (zI h) 1 Ch En) → (¬ ((P p 2 = 1 ∧ h < 30) ∧ ab (E (h + 1) - P p 3) < f) → kx (zI p) (zI (P p 3)) (zI h) B Ch En) → pX12_findTurns_85 N kx 2 (zI p) (zI (P p 3)) (zI h) B (zI f) (-1 + 2) Ch En := fun B f hf k1 k0 => by
    have no : ¬ (P p 2 = 1 ∧ h < 30) → pX12_findTurns_130 (pX12_findTurns_85 N kx 1) (zI p) (zI (P p 3)) (zI h) B (zI f) (-1 + 2) Ch En := fun g => by
      unfold pX12_findTurns_130 pX12_findTurns_131
      refine br0 (m_ft165 hf hf (fun z => absurd z (by omega)) (fun _ => brT (by decide) (k0 (fun z => g z.1))))
    refine brF (by decide) (brT (by decide) ?_)
    by_cases g2 : h < 30
    · refine brF (by ((try simp only [zI_lit, zI_neg, zI_add, zI_sub, zI_mul, zI_n, ne_eq]) <;> (first | rw [zI_lt (by omega) (by omega)] | rw [zI_le (by omega) (by omega)] | rw [zI_eq (by omega) (by omega)]); try omega)) (m_p hx h12 hp 2 rfl (by omega) ?_)
      by_cases g1 : P p 2 = 1
      · refine brT (by ((try simp only [zI_lit, zI_neg, zI_add, zI_sub, zI_mul, zI_n, ne_eq]) <;> (first | rw [zI_lt (by omega) (by omega)] | rw [zI_le (by omega) (by omega)] | rw [zI_eq (by omega) (by omega)]); try omega)) ?_
        unfold pX12_findTurns_131
        have b2 := hE (h + 1) (by omega)
        have a2 : 0 ≤ ab (E (h + 1) - P p 3) ∧ ab (E (h + 1) - P p 3) ≤ 30 := ⟨ab_n _, ab_b (by omega)⟩
        have ee : ((31 : Int32) * zI (p : Int) + 31 + zI h + (-1 + 2)) = zI ((31 * (p : Int) + 31 + (h + 1))) := by
          rw [show ((-1 : Int32) + 2) = zI 1 from by decide]; ((try simp only [zI_lit, zI_neg, zI_add, zI_sub, zI_mul, zI_n]) <;> (first | rfl | (refine zI_eqI ?_; omega)))
        have e2 : (zI ((31 * (p : Int) + 31 + (h + 1)))).toNatClampNeg = 31 * p + 31 + (h + 1).toNat := by ((try simp only [zI_lit, zI_neg, zI_add, zI_sub, zI_mul, zI_n]); rw [zI_clamp (by omega)]; omega)
        have e3 := hL (h + 1).toNat (by omega)
        rw [Int.toNat_of_nonneg (by omega)] at e3
        rw [ee]
        refine br1 ⟨by ((try simp only [zI_lit, zI_neg, zI_add, zI_sub, zI_mul, zI_n]); rw [zI_in (by omega)]; omega), ?_⟩
        rw [e2, e3]
        refine m_ap (by omega) (by omega) (m_ft165 hf a2 (fun z => brT (by decide) ?_) (fun z => brT (by decide) (k0 (fun y => z y.2))))
        exact k1 ⟨⟨g1, g2⟩, z⟩
      · exact brF (by ((try simp only [zI_lit, zI_neg, zI_add, zI_sub, zI_mul, zI_n, ne_eq]) <;> (first | rw [zI_lt (by omega) (by omega)] | rw [zI_le (by omega) (by omega)] | rw [zI_eq (by omega) (by omega)]); try omega)) (no (fun z => g1 z.1))
    · exact brT (by ((try simp only [zI_lit, zI_neg, zI_add, zI_sub, zI_mul, zI_n, ne_eq]) <;> (first | rw [zI_lt (by omega) (by omega)] | rw [zI_le (by omega) (by omega)] | rw [zI_eq (by omega) (by omega)]); try omega)) (no (fun z => g2 z.2))
  unfold bd at hk
  refine brF (by decide) (brF (by decide) ?_)
  by_cases g : 0 < h
  · refine brF (by ((try simp only [zI_lit, zI_neg, zI_add, zI_sub, zI_mul, zI_n, ne_eq]) <;> (first | rw [zI_lt (by omega) (by omega)] | rw [zI_le (by omega) (by omega)] | rw [zI_eq (by omega) (by omega)]); try omega)) ?_
    unfold pX12_findTurns_131
    have b1 := hE (h - 1) (by omega)
    have a1 : 0 ≤ ab (E (h - 1) - P p 3) ∧ ab (E (h - 1) - P p 3) ≤ 30 := ⟨ab_n _, ab_b (by omega)⟩
    have ee : ((31 : Int32) * zI (p : Int) + 31 + zI h + (-1)) = zI ((31 * (p : Int) + 31 + (h - 1))) := by ((try simp only [zI_lit, zI_neg, zI_add, zI_sub, zI_mul, zI_n]) <;> (first | rfl | (refine zI_eqI ?_; omega)))
    have e2 : (zI ((31 * (p : Int) + 31 + (h - 1)))).toNatClampNeg = 31 * p + 31 + (h - 1).toNat := by ((try simp only [zI_lit, zI_neg, zI_add, zI_sub, zI_mul, zI_n]); rw [zI_clamp (by omega)]; omega)
    have e3 := hL (h - 1).toNat (by omega)
    rw [Int.toNat_of_nonneg (by omega)] at e3
    rw [ee]
    refine br1 ⟨by ((try simp only [zI_lit, zI_neg, zI_add, zI_sub, zI_mul, zI_n]); rw [zI_in (by omega)]; omega), ?_⟩
    rw [e2, e3]
    refine m_ap (by omega) (by omega) (m_ft165 a0 a1 (fun g2 => ?_) (fun g2 => ?_))
    · rw [if_pos ⟨g, g2⟩] at hk
      refine sec _ _ a1 (fun z => ?_) (fun z => ?_)
      · rw [if_pos z] at hk; exact hk
      · rw [if_neg z] at hk; exact hk
    · rw [if_neg (fun z => g2 z.2)] at hk
      refine sec _ _ a0 (fun z => ?_) (fun z => ?_)
      · rw [if_pos z] at hk; exact hk
      · rw [if_neg z] at hk; exact hk
  · rw [if_neg (fun z => g z.1)] at hk
    refine brT (by ((try simp only [zI_lit, zI_neg, zI_add, zI_sub, zI_mul, zI_n, ne_eq]) <;> (first | rw [zI_lt (by omega) (by omega)] | rw [zI_le (by omega) (by omega)] | rw [zI_eq (by omega) (by omega)]); try omega)) ?_
    unfold pX12_findTurns_131
    refine br0 (m_ft165 a0 a0 (fun z => absurd z (by omega)) (fun _ => sec _ _ a0 (fun z => ?_) (fun z => ?_)))
    · rw [if_pos z] at hk; exact hk
    · rw [if_neg z] at hk; exact hk
theorem m_ft51 (hx : rowsIn 6 np (0 + 6) N P) (hP : okP np P) (hE : ∀ z : Int, 0 ≤ z ∧ z ≤ 30 → 0 ≤ E z ∧ E z ≤ 30) {p : Nat} (hp : p < np) {kx : Int32 → (Nat → Int32) → (Nat → Int32) → Prop} : ∀ (j i : Nat) (Ch En : Nat → Int32), i + j = 31 → (∀ q : Nat, q ≤ 30 → En (31 * p + 31 + q) = zI (E q)) → (∀ Ch' En' : Nat → Int32, (∀ q : Nat, i ≤ q → q < 31 → Ch' (31 * p + q) = zI (bd (P p) E q)) → (∀ q : Nat, i ≤ q → q < 31 → En' (31 * p + q) = zI (E (q + bd (P p) E q))) → (∀ q, 31 * p + 31 ≤ q ∨ q < 31 * p + i → Ch' q = Ch q) → (∀ q, 31 * p + 31 ≤ q ∨ q < 31 * p + i → En' q = En q) → kx (zI p) Ch' En') → pX12_findTurns_51 N kx (j + 1) (zI p) (zI (P p 3)) (zI i) Ch En
  | 0, i, Ch, En, hi, hL, hk => brT (by ((try simp only [zI_lit, zI_neg, zI_add, zI_sub, zI_mul, zI_n, ne_eq]) <;> (first | rw [zI_lt (by omega) (by omega)] | rw [zI_le (by omega) (by omega)] | rw [zI_eq (by omega) (by omega)]); try omega)) (hk Ch En (fun q a b => absurd b (by omega)) (fun q a b => absurd b (by omega)) (fun _ _ => rfl) (fun _ _ => rfl))
  | j + 1, i, Ch, En, hi, hL, hk => by
    have h12 := hP.1
    obtain ⟨o1, o2, o3, o4, o5⟩ := hP.2.1 p hp
    have bb := @bd_b (P p) E (i : Int) (by omega)
    have b0 := hE i (by omega)
    have b3 := hE _ bb.2
    have e1 : zI (i : Int) + 1 = zI ((i + 1 : Nat) : Int) := by ((try simp only [zI_lit, zI_neg, zI_add, zI_sub, zI_mul, zI_n]) <;> (first | rfl | (refine zI_eqI ?_; omega)))
    have e2 : ((31 : Int32) * zI (p : Int) + zI (i : Int)).toNatClampNeg = 31 * p + i := by ((try simp only [zI_lit, zI_neg, zI_add, zI_sub, zI_mul, zI_n]); rw [zI_clamp (by omega)]; omega)
    have e3 : ((31 : Int32) * zI (p : Int) + 31 + zI (i : Int)).toNatClampNeg = 31 * p + 31 + i := by ((try simp only [zI_lit, zI_neg, zI_add, zI_sub, zI_mul, zI_n]); rw [zI_clamp (by omega)]; omega)
    have e4 : ((31 : Int32) * zI (p : Int) + 31 + zI (i : Int) + zI (bd (P p) E i)).toNatClampNeg = 31 * p + 31 + ((i : Int) + bd (P p) E i).toNat := by ((try simp only [zI_lit, zI_neg, zI_add, zI_sub, zI_mul, zI_n]); rw [zI_clamp (by omega)]; omega)
    have e5 := hL ((i : Int) + bd (P p) E i).toNat (by omega)
    rw [Int.toNat_of_nonneg (by omega)] at e5
    refine brF (by ((try simp only [zI_lit, zI_neg, zI_add, zI_sub, zI_mul, zI_n, ne_eq]) <;> (first | rw [zI_lt (by omega) (by omega)] | rw [zI_le (by omega) (by omega)] | rw [zI_eq (by omega) (by omega)]); try omega)) ⟨by ((try simp only [zI_lit, zI_neg, zI_add, zI_sub, zI_mul, zI_n]); rw [zI_in (by omega)]; omega), ?_⟩
    rw [e3, hL i (by omega)]
    refine m_ap (by omega) (by omega) ⟨3, m_ft85 hx hP hE hp (by omega) hL ⟨by ((try simp only [zI_lit, zI_neg, zI_add, zI_sub, zI_mul, zI_n]); rw [zI_in (by omega)]; omega), by ((try simp only [zI_lit, zI_neg, zI_add, zI_sub, zI_mul, zI_n]); rw [zI_in (by omega)]; omega), by ((try simp only [zI_lit, zI_neg, zI_add, zI_sub, zI_mul, zI_n]); rw [zI_in (by omega)]; omega), ?_⟩⟩
    rw [e1, e2, e4, e5]
    refine m_ft51 hx hP hE hp j (i + 1) _ _ (by omega) (fun q hq => ?_) (fun Ch' En' f1 f2 f3 f4 => hk Ch' En' (fun q a b => ?_) (fun q a b => ?_) (fun q a => ?_) (fun q a => ?_))
    · rw [upd_n _ _ (by omega)]; exact hL q hq
    · by_cases c : q = i
      · rw [c, f3 _ (by omega), upd_s]
      · exact f1 q (by omega) b
    · by_cases c : q = i
      · rw [c, f4 _ (by omega), upd_s]
      · exact f2 q (by omega) b
    · rw [f3 q (by omega), upd_n _ _ (by omega)]
    · rw [f4 q (by omega), upd_n _ _ (by omega)]
theorem m_ft37 (hx : rowsIn 6 np (0 + 6) N P) (hP : okP np P) {kx : (Nat → Int32) → (Nat → Int32) → Prop} (hk : ∀ Ch' En' : Nat → Int32, (∀ p q : Nat, p < np → q < 31 → Ch' (31 * p + q) = zI (bd (P p) (te P np (np - 1 - p)) q)) → (∀ q : Nat, q ≤ 30 → En' (31 * 0 + q) = zI (te P np np q)) → kx Ch' En') : ∀ (m : Nat) (Ch En : Nat → Int32), m ≤ np → (∀ q : Nat, q ≤ 30 → En (31 * m + q) = zI (te P np (np - m) q)) → (∀ p q : Nat, m ≤ p → p < np → q < 31 → Ch (31 * p + q) = zI (bd (P p) (te P np (np - 1 - p)) q)) → pX12_findTurns_37 N kx (m + 1) (zI ((m : Int) - 1)) Ch En
  | 0, Ch, En, hm, hL, hC => brT (by ((try simp only [zI_lit, zI_neg, zI_add, zI_sub, zI_mul, zI_n, ne_eq]) <;> (first | rw [zI_lt (by omega) (by omega)] | rw [zI_le (by omega) (by omega)] | rw [zI_eq (by omega) (by omega)]); try omega)) (hk Ch En (fun p q a b => hC p q (by omega) a b) hL)
  | m + 1, Ch, En, hm, hL, hC => by
    have h12 := hP.1
    rw [show (((m + 1 : Nat) : Int) - 1) = (m : Int) by omega]
    refine brF (by ((try simp only [zI_lit, zI_neg, zI_add, zI_sub, zI_mul, zI_n, ne_eq]) <;> (first | rw [zI_lt (by omega) (by omega)] | rw [zI_le (by omega) (by omega)] | rw [zI_eq (by omega) (by omega)]); try omega)) (m_p hx h12 (by omega) 3 rfl (by omega) ⟨32, m_ft51 hx hP (te_b P np (np - (m + 1))) (by omega) 31 0 Ch En (by omega) hL (fun Ch' En' f1 f2 f3 f4 => ?_)⟩)
    rw [show zI (m : Int) + -1 = zI ((m : Int) - 1) by ((try simp only [zI_lit, zI_neg, zI_add, zI_sub, zI_mul, zI_n]) <;> (first | rfl | (refine zI_eqI ?_; omega)))]
    refine m_ft37 hx hP hk m Ch' En' (by omega) (fun q hq => ?_) (fun p q a b c => ?_)
    · rw [f2 q (by omega) (by omega), show np - m = (np - (m + 1)) + 1 by omega]
      show _ = zI (te P np (np - (m + 1)) (q + bd (P (np - (np - (m + 1) + 1))) (te P np (np - (m + 1))) q))
      rw [show np - (np - (m + 1) + 1) = m by omega]
    · by_cases d : p = m
      · rw [d, f1 q (by omega) c, show np - 1 - m = np - (m + 1) by omega]
      · rw [f3 _ (by omega)]
        exact hC p q (by omega) b c
theorem m_find (e2 : N 2 = zI np) (hx : rowsIn 6 np (0 + 6) N P) (hP : okP np P) {Ch En : Nat → Int32} {k : (Nat → Int32) → (Nat → Int32) → Prop} (hk : ∀ Ch' En' : Nat → Int32, (∀ p q : Nat, p < np → q < 31 → Ch' (31 * p + q) = zI (bd (P p) (te P np (np - 1 - p)) q)) → (∀ q : Nat, q ≤ 30 → En' (31 * 0 + q) = zI (te P np np q)) → k Ch' En') : pX12_findTurns N Ch En k := by
  have h12 := hP.1
  unfold pX12_findTurns
  rw [c2, e2]
  refine ⟨32, m_ft9 h12 31 0 En (by omega) (fun En' f1 f2 => ⟨np + 1, ?_⟩)⟩
  rw [show zI (np : Int) - 1 = zI ((np : Int) - 1) by ((try simp only [zI_lit, zI_neg, zI_add, zI_sub, zI_mul, zI_n]) <;> (first | rfl | (refine zI_eqI ?_; omega)))]
  refine m_ft37 hx hP hk np Ch En' (by omega) (fun q hq => ?_) (fun p q a b c => absurd b (by omega))
  rw [Nat.sub_self]
  exact f1 q (by omega) hq
theorem m_tu37 (hP : okP np P) {Ch En R : Nat → Int32} {h : Int} (hh : 0 ≤ h ∧ h ≤ 30) (hC : ∀ p q : Nat, p < np → q < 31 → Ch (31 * p + q) = zI (bd (P p) (te P np (np - 1 - p)) q)) {kx : Int32 → Int32 → (Nat → Int32) → (Nat → Int32) → (Nat → Int32) → Prop} {a : Nat} (ha : a < np) (hk : kx (zI a) (zI (tH P np h a)) R Ch En) : ∀ (j i : Nat), i + j = a → pX12_turns_37 kx (j + 1) (zI a) (zI (tH P np h i)) (zI i) R Ch En
  | 0, i, hi => by
    have h12 := hP.1
    rw [show i = a by omega]
    exact brT (by ((try simp only [zI_lit, zI_neg, zI_add, zI_sub, zI_mul, zI_n, ne_eq]) <;> (first | rw [zI_lt (by omega) (by omega)] | rw [zI_le (by omega) (by omega)] | rw [zI_eq (by omega) (by omega)]); try omega)) hk
  | j + 1, i, hi => by
    have h12 := hP.1
    have b := tH_b P np h hh i
    have e1 : zI (i : Int) + 1 = zI ((i + 1 : Nat) : Int) := by ((try simp only [zI_lit, zI_neg, zI_add, zI_sub, zI_mul, zI_n]) <;> (first | rfl | (refine zI_eqI ?_; omega)))
    have e2 : ((31 : Int32) * zI (i : Int) + zI (tH P np h i)).toNatClampNeg = 31 * i + (tH P np h i).toNat := by ((try simp only [zI_lit, zI_neg, zI_add, zI_sub, zI_mul, zI_n]); rw [zI_clamp (by omega)]; omega)
    have e3 := hC i (tH P np h i).toNat (by omega) (by omega)
    rw [Int.toNat_of_nonneg b.1] at e3
    refine brF (by ((try simp only [zI_lit, zI_neg, zI_add, zI_sub, zI_mul, zI_n, ne_eq]) <;> (first | rw [zI_lt (by omega) (by omega)] | rw [zI_le (by omega) (by omega)] | rw [zI_eq (by omega) (by omega)]); try omega)) ⟨by ((try simp only [zI_lit, zI_neg, zI_add, zI_sub, zI_mul, zI_n]); rw [zI_in (by omega)]; omega), ?_⟩
    rw [e2, e3, e1, zI_add]
    exact m_tu37 hP hh hC ha hk j (i + 1) (by omega)
theorem m_turns {h : Int} (e0 : N 0 = zI h) (e2 : N 2 = zI np) (hx : rowsIn 6 np (0 + 6) N P) (hP : okP np P) {Ch En R : Nat → Int32} {a : Int} (hh : 0 ≤ h ∧ h ≤ 30) (ra : (-2147483648 ≤ a ∧ a < 2147483648)) {K : Int32 → (Nat → Int32) → (Nat → Int32) → (Nat → Int32) → Prop} (h0 : ¬ (-1 ≤ a ∧ a < np) → K (-10) (upd R 0 (R 0 + 1)) Ch En) (h1 : -1 ≤ a ∧ a < np → ∀ Ch' En', K (zI (if a = -1 then te P np np h else bd (P a.toNat) (te P np (np - 1 - a.toNat)) (tH P np h a.toNat))) R Ch' En') : pX12_turns N R Ch En (zI a) K := by
  have h12 := hP.1
  unfold pX12_turns
  rw [c2, e2, c0, e0]
  refine m_wi (b := -1) (c := (np : Int) - 1) rfl (by ((try simp only [zI_lit, zI_neg, zI_add, zI_sub, zI_mul, zI_n]) <;> (first | rfl | (refine zI_eqI ?_; omega)))) ra (by omega) (by omega) (fun g => br1 ?_) (fun g => br0 ((m_bad _ _).mpr (h0 (by omega))))
  refine m_find e2 hx hP (fun Ch' En' f1 f2 => ?_)
  have hv := h1 (by omega) Ch' En'
  by_cases c : a = -1
  · rw [if_pos c] at hv
    have e3 := f2 h.toNat (by omega)
    rw [Int.toNat_of_nonneg hh.1, show 31 * 0 + h.toNat = h.toNat by omega] at e3
    refine ⟨1, brT (by ((try simp only [zI_lit, zI_neg, zI_add, zI_sub, zI_mul, zI_n, ne_eq]) <;> (first | rw [zI_lt (by omega) (by omega)] | rw [zI_le (by omega) (by omega)] | rw [zI_eq (by omega) (by omega)]); try omega)) (brT (by rw [c]; rfl) ⟨by ((try simp only [zI_lit, zI_neg, zI_add, zI_sub, zI_mul, zI_n]); rw [zI_in (by omega)]; omega), ?_⟩)⟩
    rw [zI_clamp (by omega), e3]
    exact hv
  · rw [if_neg c] at hv
    obtain ⟨q, rfl⟩ : ∃ q : Nat, a = (q : Int) := ⟨a.toNat, by omega⟩
    rw [Int.toNat_natCast] at hv
    have b := tH_b P np h hh q
    have e4 : ((31 : Int32) * zI (q : Int) + zI (tH P np h q)).toNatClampNeg = 31 * q + (tH P np h q).toNat := by ((try simp only [zI_lit, zI_neg, zI_add, zI_sub, zI_mul, zI_n]); rw [zI_clamp (by omega)]; omega)
    have e3 := f1 q (tH P np h q).toNat (by omega) (by omega)
    rw [Int.toNat_of_nonneg b.1] at e3
    refine ⟨q + 1, m_tu37 hP hh f1 (by omega) (brF (by ((try simp only [zI_lit, zI_neg, zI_add, zI_sub, zI_mul, zI_n, ne_eq]) <;> (first | rw [zI_lt (by omega) (by omega)] | rw [zI_le (by omega) (by omega)] | rw [zI_eq (by omega) (by omega)]); try omega)) ⟨by ((try simp only [zI_lit, zI_neg, zI_add, zI_sub, zI_mul, zI_n]); rw [zI_in (by omega)]; omega), ?_⟩) q 0 (by omega)⟩
    rw [e4, e3]
    exact hv
end TM
theorem x_turns {np : Nat} {cells : Nat → Int32} {P : Nat → Nat → Int} {h a : Int} {bc : Int32} {Ch En L : Nat → Int32} (hx : rowsIn 6 np 0 cells P) (hP : okP np P) (hh : 0 ≤ h ∧ h ≤ 30) (ra : (-2147483648 ≤ a ∧ a < 2147483648)) {K : Int32 → Int32 → (Nat → Int32) → (Nat → Int32) → (Nat → Int32) → Prop} (h0 : ¬ (-1 ≤ a ∧ a < np) → K (-10) (bc + 1) Ch En L) (h1 : -1 ≤ a ∧ a < np → ∀ Ch' En' L', K (zI (if a = -1 then te P np np h else bd (P a.toNat) (te P np (np - 1 - a.toNat)) (tH P np h a.toNat))) bc Ch' En' L') : pX11_turns bc (zI h) (zI np) cells Ch En L (zI a) K := by
  have h12 := hP.1
  have main : -1 ≤ a ∧ a < np → pX11_turns_26 (zI h) (zI np) cells K (zI a) bc Ch En L := fun g => by
    unfold pX11_turns_26
    refine x_choose hx hP (fun Ch' En' L' f => ⟨np + 1, x_tu40 hP hh g f (h1 g Ch' En' L') np 0 (by omega) (by omega)⟩)
  unfold pX11_turns
  by_cases c : a = -1
  · exact brT (by rw [c]; rfl) (main (by omega))
  · refine brF (by ((try simp only [zI_lit, zI_neg, zI_add, zI_sub, zI_mul, zI_n, ne_eq]) <;> (first | rw [zI_lt (by omega) (by omega)] | rw [zI_le (by omega) (by omega)] | rw [zI_eq (by omega) (by omega)]); try omega)) (x_has (by omega) ra (fun g => br1 (main (by omega))) (fun g => br0 ?_))
    unfold pX11_badAs
    exact h0 (by omega)
set_option maxHeartbeats 4000000 in
theorem st_18 : ∀ (s_above : Int64) (s_below : Int64) (s_badCalls : Int32) (s_noCalls : Int32) (s_fullCalls : Int32) (s_road_high : Int32) (s_road_low : Int32) (s_road_passers_size : Int32) (s_road_passers_cells : Nat → Int32) (s_road_beasts_size : Int32) (s_road_beasts_cells : Nat → Int32) (s_road_checks_size : Int32) (s_road_checks_cells : Nat → Int32) (s_road_looks_size : Int32) (s_road_looks_cells : Nat → Int32) (s_trial_high : Int32) (s_trial_low : Int32) (s_trial_passers_size : Int32) (s_trial_passers_cells : Nat → Int32) (s_trial_beasts_size : Int32) (s_trial_beasts_cells : Nat → Int32) (s_trial_checks_size : Int32) (s_trial_checks_cells : Nat → Int32) (s_trial_looks_size : Int32) (s_trial_looks_cells : Nat → Int32) (s_text_length : Int32) (s_text_place : Int32) (s_text_next : Int32) (s_text_bytes : Nat → Int32) (s_text_items_size : Int32) (s_text_items_cells : Nat → Int32) (s_hiring_men : Int32) (s_hiring_goal : Int32) (s_hiring_goalMen : Int32) (s_hiring_fewest : Nat → Int32) (s_hiring_gains : Nat → Int32) (s_spread_now : Nat → Int64) (s_spread_later : Nat → Int64) (s_choices : Nat → Int32) (s_ends : Nat → Int32) (s_laterEnds : Nat → Int32) (s1_above : Int64) (s1_below : Int64) (s1_typed : Int32) (s1_at : Int32) (s1_start : Int32) (s1_sort : Int32) (s1_value : Int32) (s1_fault : Int32) (s1_itemsMany : Int32) (s1_goneHeight : Int32) (s1_goneDid : Int32) (s1_now : Nat → Int32) (s1_isKept : Nat → Int32) (s1_refused : Nat → Int32) (s1_text : Nat → Int32) (s1_items : Nat → Int32) (s1_did : Nat → Int32) (s1_fewest : Nat → Int32) (s1_chosen : Nat → Int32) (s1_ends : Nat → Int32) (s1_rows : Nat → Int32) (s1_ways : Nat → Int64) (s1_then : Nat → Int64) (o0 : Option RD) (o1 : Option RD) (v1 v2 v3 v4 : Int32), RelS s_above s_below s_badCalls s_noCalls s_fullCalls s_road_high s_road_low s_road_passers_size s_road_passers_cells s_road_beasts_size s_road_beasts_cells s_road_checks_size s_road_checks_cells s_road_looks_size s_road_looks_cells s_trial_high s_trial_low s_trial_passers_size s_trial_passers_cells s_trial_beasts_size s_trial_beasts_cells s_trial_checks_size s_trial_checks_cells s_trial_looks_size s_trial_looks_cells s_text_length s_text_place s_text_next s_text_bytes s_text_items_size s_text_items_cells s_hiring_men s_hiring_goal s_hiring_goalMen s_hiring_fewest s_hiring_gains s_spread_now s_spread_later s_choices s_ends s_laterEnds s1_above s1_below s1_typed s1_at s1_start s1_sort s1_value s1_fault s1_itemsMany s1_goneHeight s1_goneDid s1_now s1_isKept s1_refused s1_text s1_items s1_did s1_fewest s1_chosen s1_ends s1_rows s1_ways s1_then o0 o1 → pL_18 RelS s_above s_below s_badCalls s_noCalls s_fullCalls s_road_high s_road_low s_road_passers_size s_road_passers_cells s_road_beasts_size s_road_beasts_cells s_road_checks_size s_road_checks_cells s_road_looks_size s_road_looks_cells s_trial_high s_trial_low s_trial_passers_size s_trial_passers_cells s_trial_beasts_size s_trial_beasts_cells s_trial_checks_size s_trial_checks_cells s_trial_looks_size s_trial_looks_cells s_text_length s_text_place s_text_next s_text_bytes s_text_items_size s_text_items_cells s_hiring_men s_hiring_goal s_hiring_goalMen s_hiring_fewest s_hiring_gains s_spread_now s_spread_later s_choices s_ends s_laterEnds s1_above s1_below s1_typed s1_at s1_start s1_sort s1_value s1_fault s1_itemsMany s1_goneHeight s1_goneDid s1_now s1_isKept s1_refused s1_text s1_items s1_did s1_fewest s1_chosen s1_ends s1_rows s1_ways s1_then o0 o1 v1 v2 v3 v4 := by
  intro s_above s_below s_badCalls s_noCalls s_fullCalls s_road_high s_road_low s_road_passers_size s_road_passers_cells s_road_beasts_size s_road_beasts_cells s_road_checks_size s_road_checks_cells s_road_looks_size s_road_looks_cells s_trial_high s_trial_low s_trial_passers_size s_trial_passers_cells s_trial_beasts_size s_trial_beasts_cells s_trial_checks_size s_trial_checks_cells s_trial_looks_size s_trial_looks_cells s_text_length s_text_place s_text_next s_text_bytes s_text_items_size s_text_items_cells s_hiring_men s_hiring_goal s_hiring_goalMen s_hiring_fewest s_hiring_gains s_spread_now s_spread_later s_choices s_ends s_laterEnds s1_above s1_below s1_typed s1_at s1_start s1_sort s1_value s1_fault s1_itemsMany s1_goneHeight s1_goneDid s1_now s1_isKept s1_refused s1_text s1_items s1_did s1_fewest s1_chosen s1_ends s1_rows s1_ways s1_then o0 o1 v1 v2 v3 v4 hR
  obtain ⟨hRd, hI0, hI1, hT, hab, hbe, hb, hn, hfu⟩ := hR
  unfold pL_18
  obtain ⟨h, lo, np, nb, nc, nl, P, B, C, L, hok, hx, hm⟩ := id hRd
  obtain ⟨x1, x2, x3, x4, x5, x6, x7, x8, x9, x10⟩ := id hx
  obtain ⟨m1, m2, m3, m4, m5, m6, m7, m8, m9, m10⟩ := id hm
  dsimp only at x1 x2 x3 x4 x5 x6 x7 x8 x9 x10
  have hP := hok.2.2.1
  have n1 := hP.1
  subst x1 x2 x3 x5 x7 x9
  have hh := hok.1
  obtain ⟨y1, rfl, hz1⟩ := zI_ex v1
  refine x_turns x4 hP hh hz1 (fun g => ?_) (fun g _ _ _ => ?_)
  · refine m_turns m1 m3 m7 hP hh hz1 (fun _ => ?_) (fun g' => absurd g' g)
    exact ⟨fun _ => ⟨hRd, hI0, hI1, hT, hab, hbe, by rw [upd_s, hb], (upd_n _ _ (by omega)).trans hn, (upd_n _ _ (by omega)).trans hfu⟩, fun z => z rfl⟩
  · refine m_turns m1 m3 m7 hP hh hz1 (fun g' => absurd g g') (fun _ _ _ => ?_)
    exact ⟨fun _ => ⟨hRd, hI0, hI1, hT, hab, hbe, hb, hn, hfu⟩, fun z => z rfl⟩
