/-! advice -/
def hbS (P : Nat → Nat → Int) (h : Int) (p c : Nat) (a e : Int) (i : Nat) : Int × Int := if i ≤ p then wk P i 0 h 0 else wk P (min i c - (p + 1)) (p + 1) (a + e) e
section HBY
variable {np : Nat} {N : Nat → Int32} {P : Nat → Nat → Int} {h m : Int}
theorem m_hby14 (e2 : N 2 = zI np) (hx : rowsIn 6 np (0 + 6) N P) (hP : okP np P) (hh : 0 ≤ h ∧ h ≤ 30) (hm : 0 ≤ m ∧ m ≤ 99) {p : Nat} (hp : p < np) (hpm : P p 0 ≤ m) {w e : Int} (hw : w = -1 ∧ e = tk (wk P p 0 h 0).1 ∨ w = 0 ∧ e = 0 ∨ w = 1 ∧ e = ly (wk P p 0 h 0).1) {kx : Int32 → Prop} : ∀ (j i : Nat), i + j = np → kx (zI (hbS P h p (cn P m np) (wk P p 0 h 0).1 e np).1) → pX12_heightBy_14 N kx (j + 1) (zI p) (zI w) (zI m) (zI (hbS P h p (cn P m np) (wk P p 0 h 0).1 e i).1) (zI (hbS P h p (cn P m np) (wk P p 0 h 0).1 e i).2) (zI i)
  | 0, i, hi, hk => by
    have h12 := hP.1
    rw [show i = np by omega]
    exact brT (by rw [c2, e2]; ((try simp only [zI_lit, zI_neg, zI_add, zI_sub, zI_mul, zI_n, ne_eq]) <;> (first | rw [zI_lt (by omega) (by omega)] | rw [zI_le (by omega) (by omega)] | rw [zI_eq (by omega) (by omega)]); try omega)) hk
  | j + 1, i, hi, hk => by
    have h12 := hP.1
    have hc := cn_le P m np
    have ho := (hP.2.1 i (by omega)).1
    have hI := cn_iff (P := P) m np hP.2.2 i (by omega)
    have hIp := (cn_iff (P := P) m np hP.2.2 p hp).1 hpm
    have e1 : zI (i : Int) + 1 = zI ((i + 1 : Nat) : Int) := by ((try simp only [zI_lit, zI_neg, zI_add, zI_sub, zI_mul, zI_n]) <;> (first | rfl | (refine zI_eqI ?_; omega)))
    have rcq := m_hby14 e2 hx hP hh hm hp hpm hw j (i + 1) (by omega) hk
    have bp := wk_b P p 0 h 0 hh (by omega)
    have bt := tk_b bp.1
    have bl := ly_b bp.1
    have be : (-2 ≤ e ∧ e ≤ 1) ∧ 0 ≤ (wk P p 0 h 0).1 + e ∧ (wk P p 0 h 0).1 + e ≤ 30 := by omega
    have bS : (0 ≤ (hbS P h p (cn P m np) (wk P p 0 h 0).1 e i).1 ∧ (hbS P h p (cn P m np) (wk P p 0 h 0).1 e i).1 ≤ 30) ∧ -2 ≤ (hbS P h p (cn P m np) (wk P p 0 h 0).1 e i).2 ∧ (hbS P h p (cn P m np) (wk P p 0 h 0).1 e i).2 ≤ 1 := by
      unfold hbS
      split
      · exact wk_b P i 0 h 0 hh (by omega)
      · exact wk_b P _ _ _ _ be.2 be.1
    refine brF (by rw [c2, e2]; ((try simp only [zI_lit, zI_neg, zI_add, zI_sub, zI_mul, zI_n, ne_eq]) <;> (first | rw [zI_lt (by omega) (by omega)] | rw [zI_le (by omega) (by omega)] | rw [zI_eq (by omega) (by omega)]); try omega)) (m_p hx h12 (by omega) 0 rfl (by omega) ?_)
    by_cases g : P i 0 ≤ m
    · have g2 := hI.1 g
      refine brF (by ((try simp only [zI_lit, zI_neg, zI_add, zI_sub, zI_mul, zI_n, ne_eq]) <;> (first | rw [zI_lt (by omega) (by omega)] | rw [zI_le (by omega) (by omega)] | rw [zI_eq (by omega) (by omega)]); try omega)) ?_
      by_cases q : i = p
      · have s0 : hbS P h p (cn P m np) (wk P p 0 h 0).1 e i = wk P p 0 h 0 := by unfold hbS; rw [if_pos (by omega), q]
        have s1 : hbS P h p (cn P m np) (wk P p 0 h 0).1 e (i + 1) = ((wk P p 0 h 0).1 + e, e) := by
          unfold hbS
          rw [if_neg (by omega), show min (i + 1) (cn P m np) - (p + 1) = 0 by omega]; rfl
        rw [s0]
        rw [s1] at rcq
        refine brT (by ((try simp only [zI_lit, zI_neg, zI_add, zI_sub, zI_mul, zI_n, ne_eq]) <;> (first | rw [zI_lt (by omega) (by omega)] | rw [zI_le (by omega) (by omega)] | rw [zI_eq (by omega) (by omega)]); try omega)) ?_
        have fin : ∀ E : Int32, E = zI e → pX12_heightBy_80 (pX12_heightBy_14 N kx (j + 1)) (zI p) (zI w) (zI m) (zI (wk P p 0 h 0).1) (zI i) E := fun E eE => by
          unfold pX12_heightBy_80
          rw [eE, e1, zI_add]; exact rcq
        rcases hw with ⟨w1, w2⟩ | ⟨w1, w2⟩ | ⟨w1, w2⟩
        · refine brF (by ((try simp only [zI_lit, zI_neg, zI_add, zI_sub, zI_mul, zI_n, ne_eq]) <;> (first | rw [zI_lt (by omega) (by omega)] | rw [zI_le (by omega) (by omega)] | rw [zI_eq (by omega) (by omega)]); try omega)) (m_tk bp.1 (fin _ (by rw [w2])))
        · refine brT (by ((try simp only [zI_lit, zI_neg, zI_add, zI_sub, zI_mul, zI_n, ne_eq]) <;> (first | rw [zI_lt (by omega) (by omega)] | rw [zI_le (by omega) (by omega)] | rw [zI_eq (by omega) (by omega)]); try omega)) (brT (by ((try simp only [zI_lit, zI_neg, zI_add, zI_sub, zI_mul, zI_n, ne_eq]) <;> (first | rw [zI_lt (by omega) (by omega)] | rw [zI_le (by omega) (by omega)] | rw [zI_eq (by omega) (by omega)]); try omega)) (fin _ (by rw [w2]; rfl)))
        · refine brT (by ((try simp only [zI_lit, zI_neg, zI_add, zI_sub, zI_mul, zI_n, ne_eq]) <;> (first | rw [zI_lt (by omega) (by omega)] | rw [zI_le (by omega) (by omega)] | rw [zI_eq (by omega) (by omega)]); try omega)) (brF (by ((try simp only [zI_lit, zI_neg, zI_add, zI_sub, zI_mul, zI_n, ne_eq]) <;> (first | rw [zI_lt (by omega) (by omega)] | rw [zI_le (by omega) (by omega)] | rw [zI_eq (by omega) (by omega)]); try omega)) (m_ly bp.1 (fin _ (by rw [w2]))))
      · refine brF (by ((try simp only [zI_lit, zI_neg, zI_add, zI_sub, zI_mul, zI_n, ne_eq]) <;> (first | rw [zI_lt (by omega) (by omega)] | rw [zI_le (by omega) (by omega)] | rw [zI_eq (by omega) (by omega)]); try omega)) (m_act hx hP (by omega) bS.1 bS.2 ?_)
        unfold pX12_heightBy_80
        rw [e1, zI_add]
        have s1 : hbS P h p (cn P m np) (wk P p 0 h 0).1 e (i + 1) = ((hbS P h p (cn P m np) (wk P p 0 h 0).1 e i).1 + dd (P i) (hbS P h p (cn P m np) (wk P p 0 h 0).1 e i).1 (hbS P h p (cn P m np) (wk P p 0 h 0).1 e i).2, dd (P i) (hbS P h p (cn P m np) (wk P p 0 h 0).1 e i).1 (hbS P h p (cn P m np) (wk P p 0 h 0).1 e i).2) := by
          unfold hbS
          by_cases q2 : i < p
          · rw [if_pos (by omega), if_pos (by omega)]
            have ws := wk_s P i 0 h 0
            rw [Nat.zero_add] at ws
            exact ws
          · rw [if_neg (by omega), if_neg (by omega), show min (i + 1) (cn P m np) - (p + 1) = (min i (cn P m np) - (p + 1)) + 1 by omega, wk_s, show p + 1 + (min i (cn P m np) - (p + 1)) = i by omega]
        rw [s1] at rcq
        exact rcq
    · have g2 : ¬ i < cn P m np := fun z => g (hI.2 z)
      refine brT (by ((try simp only [zI_lit, zI_neg, zI_add, zI_sub, zI_mul, zI_n, ne_eq]) <;> (first | rw [zI_lt (by omega) (by omega)] | rw [zI_le (by omega) (by omega)] | rw [zI_eq (by omega) (by omega)]); try omega)) ?_
      have s1 : hbS P h p (cn P m np) (wk P p 0 h 0).1 e (i + 1) = hbS P h p (cn P m np) (wk P p 0 h 0).1 e i := by
        unfold hbS
        rw [if_neg (by omega), if_neg (by omega), show min (i + 1) (cn P m np) = min i (cn P m np) by omega]
      rw [s1] at rcq
      rw [e1]
      exact rcq
/-- the height in the minute, with another deed of one passer -/
def hbF (P : Nat → Nat → Int) (h : Int) (p c : Nat) (e : Int) : Int := (wk P (c - (p + 1)) (p + 1) ((wk P p 0 h 0).1 + e) e).1
theorem m_hby (e0 : N 0 = zI h) (e2 : N 2 = zI np) (hx : rowsIn 6 np (0 + 6) N P) (hP : okP np P) (hh : 0 ≤ h ∧ h ≤ 30) (hm : 0 ≤ m ∧ m ≤ 99) {p : Nat} (hp : p < np) (hpm : P p 0 ≤ m) {w e : Int} {W : Int32} (eW : W = zI w) (hw : w = -1 ∧ e = tk (wk P p 0 h 0).1 ∨ w = 0 ∧ e = 0 ∨ w = 1 ∧ e = ly (wk P p 0 h 0).1) {k : Int32 → Prop} (hk : k (zI (hbF P h p (cn P m np) e))) : pX12_heightBy N (zI p) W (zI m) k := by
  have hc := cn_le P m np
  unfold pX12_heightBy
  rw [c0, e0, eW]
  have hk' : k (zI (hbS P h p (cn P m np) (wk P p 0 h 0).1 e np).1) := by
    unfold hbS
    rw [if_neg (by omega), show min np (cn P m np) = cn P m np by omega]
    exact hk
  have q := m_hby14 e2 hx hP hh hm hp hpm hw (kx := k) np 0 (by omega) hk'
  have s0 : hbS P h p (cn P m np) (wk P p 0 h 0).1 e 0 = (h, 0) := by unfold hbS; rw [if_pos (by omega)]; rfl
  rw [s0] at q
  exact ⟨np + 1, q⟩
end HBY
def advR (f0 fm fp : Int) : Int := if fm < f0 then (if fp < fm then 1 else -1) else (if fp < f0 then 1 else 0)
theorem hbF_b {P : Nat → Nat → Int} {h : Int} {p c : Nat} {e : Int} (he : (-2 ≤ e ∧ e ≤ 1) ∧ 0 ≤ (wk P p 0 h 0).1 + e ∧ (wk P p 0 h 0).1 + e ≤ 30) : 0 ≤ hbF P h p c e ∧ hbF P h p c e ≤ 30 := (wk_b P _ _ _ _ he.2 he.1).1
abbrev gA (np : Nat) (P : Nat → Nat → Int) (p m t : Int) : Prop := (0 ≤ p ∧ p < np) ∧ (0 ≤ m ∧ m ≤ 99) ∧ (0 ≤ t ∧ t ≤ 30) ∧ P p.toNat 0 ≤ m
def advV (P : Nat → Nat → Int) (np : Nat) (h p m t : Int) : Int := advR (ab (hbF P h p.toNat (cn P m np) 0 - t)) (ab (hbF P h p.toNat (cn P m np) (tk (wk P p.toNat 0 h 0).1) - t)) (ab (hbF P h p.toNat (cn P m np) (ly (wk P p.toNat 0 h 0).1) - t))
theorem m_adv {np : Nat} {N R : Nat → Int32} {P : Nat → Nat → Int} {h p m t : Int} (e0 : N 0 = zI h) (e2 : N 2 = zI np) (hx : rowsIn 6 np (0 + 6) N P) (hP : okP np P) (hh : 0 ≤ h ∧ h ≤ 30) (rp : (-2147483648 ≤ p ∧ p < 2147483648)) (rm : (-2147483648 ≤ m ∧ m < 2147483648)) (rt : (-2147483648 ≤ t ∧ t < 2147483648)) {K : Int32 → (Nat → Int32) → Prop} (h0 : ¬ gA np P p m t → K (-10) (upd R 0 (R 0 + 1))) (h1 : gA np P p m t → K (zI (advV P np h p m t)) R) : pX12_advice N R (zI p) (zI m) (zI t) K := by
  have h12 := hP.1
  have bad : ¬ gA np P p m t → pX12_advice_33 K R := fun g => by
    unfold pX12_advice_33
    exact (m_bad _ _).mpr (h0 g)
  unfold pX12_advice
  refine m_isP e2 (by omega) rp (fun g1 => br1 ?_) (fun g1 => br0 (bad (fun g => g1 g.1)))
  obtain ⟨q, rfl⟩ : ∃ q : Nat, p = (q : Int) := ⟨p.toNat, by omega⟩
  have ho := (hP.2.1 q (by omega)).1
  refine m_p hx h12 (by omega) 0 rfl (by omega) ?_
  have et : ((q : Int)).toNat = q := by omega
  refine m_wi (b := P q 0) (c := 99) rfl rfl rm (by omega) (by omega) (fun g2 => br1 ?_) (fun g2 => br0 (bad (fun g => g2 ⟨by have := g.2.2.2; rw [et] at this; exact this, g.2.1.2⟩)))
  refine m_wi (b := 0) (c := 30) rfl rfl rt (by omega) (by omega) (fun g3 => br1 ?_) (fun g3 => br0 (bad (fun g => g3 g.2.2.1)))
  have hv := h1 ⟨g1, by omega, g3, by rw [et]; exact g2.1⟩
  unfold advV at hv
  rw [et] at hv
  have bp := wk_b P q 0 h 0 hh (by omega)
  have bt := tk_b bp.1
  have bl := ly_b bp.1
  have b0 := @hbF_b P h q (cn P m np) 0 (by omega)
  have b1 := @hbF_b P h q (cn P m np) (tk (wk P q 0 h 0).1) (by omega)
  have b2 := @hbF_b P h q (cn P m np) (ly (wk P q 0 h 0).1) (by omega)
  refine m_hby e0 e2 hx hP hh (by omega) (by omega) g2.1 (w := 0) rfl (Or.inr (Or.inl ⟨rfl, rfl⟩)) (m_ap (by omega) (by omega) ?_)
  have a0 : 0 ≤ ab (hbF P h q (cn P m np) 0 - t) ∧ ab (hbF P h q (cn P m np) 0 - t) ≤ 30 := ⟨ab_n _, ab_b (by omega)⟩
  have a1 : 0 ≤ ab (hbF P h q (cn P m np) (tk (wk P q 0 h 0).1) - t) ∧ ab (hbF P h q (cn P m np) (tk (wk P q 0 h 0).1) - t) ≤ 30 := ⟨ab_n _, ab_b (by omega)⟩
  have a2 : 0 ≤ ab (hbF P h q (cn P m np) (ly (wk P q 0 h 0).1) - t) ∧ ab (hbF P h q (cn P m np) (ly (wk P q 0 h 0).1) - t) ≤ 30 := ⟨ab_n _, ab_b (by omega)⟩
  unfold advR at hv
  refine ⟨3, brF (by decide) (m_hby e0 e2 hx hP hh (by omega) (by omega) g2.1 (w := -1) rfl (Or.inl ⟨rfl, rfl⟩) (m_ap (by omega) (by omega) ?_))⟩
  have second : ∀ (bI : Int32) (l : Int), 0 ≤ l ∧ l ≤ 30 → (ab (hbF P h q (cn P m np) (ly (wk P q 0 h 0).1) - t) < l → K 1 R) → (¬ ab (hbF P h q (cn P m np) (ly (wk P q 0 h 0).1) - t) < l → K bI R) → pX12_advice_60 N (fun x4_15 s_refused_15 => K x4_15 s_refused_15) 2 (zI q) (zI m) (zI t) bI (zI l) (-1 + 2) R := fun bI l hl k1 k2 => by
    refine brF (by decide) (m_hby e0 e2 hx hP hh (by omega) (by omega) g2.1 (w := 1) (by decide) (Or.inr (Or.inr ⟨rfl, rfl⟩)) (m_ap (by omega) (by omega) ?_))
    by_cases c : ab (hbF P h q (cn P m np) (ly (wk P q 0 h 0).1) - t) < l
    · exact brF (by ((try simp only [zI_lit, zI_neg, zI_add, zI_sub, zI_mul, zI_n, ne_eq]) <;> (first | rw [zI_lt (by omega) (by omega)] | rw [zI_le (by omega) (by omega)] | rw [zI_eq (by omega) (by omega)]); try omega)) (brT (by decide) (k1 c))
    · exact brT (by ((try simp only [zI_lit, zI_neg, zI_add, zI_sub, zI_mul, zI_n, ne_eq]) <;> (first | rw [zI_lt (by omega) (by omega)] | rw [zI_le (by omega) (by omega)] | rw [zI_eq (by omega) (by omega)]); try omega)) (brT (by decide) (k2 c))
  by_cases c : ab (hbF P h q (cn P m np) (tk (wk P q 0 h 0).1) - t) < ab (hbF P h q (cn P m np) 0 - t)
  · rw [if_pos c] at hv
    refine brF (by ((try simp only [zI_lit, zI_neg, zI_add, zI_sub, zI_mul, zI_n, ne_eq]) <;> (first | rw [zI_lt (by omega) (by omega)] | rw [zI_le (by omega) (by omega)] | rw [zI_eq (by omega) (by omega)]); try omega)) (second _ _ a1 (fun d => ?_) (fun d => ?_))
    · rw [if_pos d] at hv; exact hv
    · rw [if_neg d] at hv; exact hv
  · rw [if_neg c] at hv
    refine brT (by ((try simp only [zI_lit, zI_neg, zI_add, zI_sub, zI_mul, zI_n, ne_eq]) <;> (first | rw [zI_lt (by omega) (by omega)] | rw [zI_le (by omega) (by omega)] | rw [zI_eq (by omega) (by omega)]); try omega)) (second _ _ a0 (fun d => ?_) (fun d => ?_))
    · rw [if_pos d] at hv; exact hv
    · rw [if_neg d] at hv; exact hv
theorem x_far {np : Nat} {cells : Nat → Int32} {P : Nat → Nat → Int} (hx : rowsIn 6 np 0 cells P) (hP : okP np P) {p c : Nat} {a e t : Int} (hp : p < c) (hc : c ≤ np) (ha : 0 ≤ a ∧ a ≤ 30) (he : -2 ≤ e ∧ e ≤ 1) (ht : 0 ≤ t ∧ t ≤ 30) {k : Int32 → Prop} (hk : k (zI (ab ((wk P (c - (p + 1)) (p + 1) a e).1 - t)))) : pX11_farBehind cells (zI p) (zI c) (zI (sd a e)) (zI t) k := by
  have h12 := hP.1
  have b := wk_b P (c - (p + 1)) (p + 1) a e ha he
  unfold pX11_farBehind
  refine x_wE hx hP (c - (p + 1)) (p + 1) (by ((try simp only [zI_lit, zI_neg, zI_add, zI_sub, zI_mul, zI_n]) <;> (first | rfl | (refine zI_eqI ?_; omega)))) (by ((try simp only [zI_lit, zI_neg, zI_add, zI_sub, zI_mul, zI_n]) <;> (first | rfl | (refine zI_eqI ?_; omega)))) (by omega) ha he (x_highOf b.1 b.2 ?_)
  rw [zI_sub, x_ab (by omega)]
  exact hk
theorem x_adv {np : Nat} {cells : Nat → Int32} {P : Nat → Nat → Int} {h p m t : Int} {bc : Int32} (hx : rowsIn 6 np 0 cells P) (hP : okP np P) (hh : 0 ≤ h ∧ h ≤ 30) (rp : (-2147483648 ≤ p ∧ p < 2147483648)) (rm : (-2147483648 ≤ m ∧ m < 2147483648)) (rt : (-2147483648 ≤ t ∧ t < 2147483648)) {K : Int32 → Int32 → Prop} (h0 : ¬ gA np P p m t → K (-10) (bc + 1)) (h1 : gA np P p m t → K (zI (advV P np h p m t)) bc) : pX11_advice bc (zI h) (zI np) cells (zI p) (zI m) (zI t) K := by
  have h12 := hP.1
  have bad : ¬ gA np P p m t → pX11_advice_44 K bc := fun g => by
    unfold pX11_advice_44 pX11_badAs
    exact h0 g
  unfold pX11_advice
  refine x_has (by omega) rp (fun g1 => br1 ?_) (fun g1 => br0 (bad (fun g => g1 g.1)))
  obtain ⟨q, rfl⟩ : ∃ q : Nat, p = (q : Int) := ⟨p.toNat, by omega⟩
  have ho := (hP.2.1 q (by omega)).1
  have et : ((q : Int)).toNat = q := by omega
  refine x_mi rm (fun g2 => br1 ?_) (fun g2 => br0 (bad (fun g => g2 g.2.1)))
  refine x_hi rt (fun g3 => br1 ?_) (fun g3 => br0 (bad (fun g => g3 g.2.2.1)))
  refine x_p hx h12 (by omega) 0 rfl (by omega) ?_
  by_cases g4 : P q 0 ≤ m
  · refine brT (by ((try simp only [zI_lit, zI_neg, zI_add, zI_sub, zI_mul, zI_n, ne_eq]) <;> (first | rw [zI_lt (by omega) (by omega)] | rw [zI_le (by omega) (by omega)] | rw [zI_eq (by omega) (by omega)]); try omega)) ?_
    have hv := h1 ⟨g1, g2, g3, by rw [et]; exact g4⟩
    unfold advV at hv
    rw [et] at hv
    have hc := cn_le P m np
    have hI := (cn_iff (P := P) m np hP.2.2 q (by omega)).1 g4
    have bp := wk_b P q 0 h 0 hh (by omega)
    have bt := tk_b bp.1
    have bl := ly_b bp.1
    have b0 := @hbF_b P h q (cn P m np) 0 (by omega)
    have b1 := @hbF_b P h q (cn P m np) (tk (wk P q 0 h 0).1) (by omega)
    have b2 := @hbF_b P h q (cn P m np) (ly (wk P q 0 h 0).1) (by omega)
    have a0 : 0 ≤ ab (hbF P h q (cn P m np) 0 - t) ∧ ab (hbF P h q (cn P m np) 0 - t) ≤ 30 := ⟨ab_n _, ab_b (by omega)⟩
    have a1 : 0 ≤ ab (hbF P h q (cn P m np) (tk (wk P q 0 h 0).1) - t) ∧ ab (hbF P h q (cn P m np) (tk (wk P q 0 h 0).1) - t) ≤ 30 := ⟨ab_n _, ab_b (by omega)⟩
    have a2 : 0 ≤ ab (hbF P h q (cn P m np) (ly (wk P q 0 h 0).1) - t) ∧ ab (hbF P h q (cn P m np) (ly (wk P q 0 h 0).1) - t) ≤ 30 := ⟨ab_n _, ab_b (by omega)⟩
    have e00 : ∀ n : Nat, (wk P n 0 h 0) = (wk P n 0 h 0) := fun _ => rfl
    refine x_first (x_wE hx hP q 0 rfl (by ((try simp only [zI_lit, zI_neg, zI_add, zI_sub, zI_mul, zI_n]) <;> (first | rfl | (refine zI_eqI ?_; omega)))) (by omega) hh (by omega) (x_highOf bp.1 bp.2 ?_))
    refine x_passed hx hP (by omega) ?_
    refine x_stand (d := 0) (x_far hx hP hI hc bp.1 (by omega) g3 ?_)
    have z00 : hbF P h q (cn P m np) 0 = (wk P (cn P m np - (q + 1)) (q + 1) (wk P q 0 h 0).1 0).1 := by unfold hbF; rw [Int.add_zero]
    rw [← z00]
    unfold advR at hv
    have second : ∀ (bI : Int32) (l : Int), 0 ≤ l ∧ l ≤ ab (hbF P h q (cn P m np) 0 - t) → (ab (hbF P h q (cn P m np) (ly (wk P q 0 h 0).1) - t) < l → K 1 bc) → (¬ ab (hbF P h q (cn P m np) (ly (wk P q 0 h 0).1) - t) < l → K bI bc) → pX11_advice_104 cells (fun x6_22 s_badCalls_22 => K x6_22 s_badCalls_22) 2 (zI q) (zI t) (zI (wk P q 0 h 0).1) (zI (cn P m np : Int)) bI (zI l) (-1 + 2) bc := fun bI l hl k1 k2 => by
      refine brF (by decide) ?_
      have e1 : zI (wk P q 0 h 0).1 + (-1 + 2) = zI ((wk P q 0 h 0).1 + 1) := by ((try simp only [zI_lit, zI_neg, zI_add, zI_sub, zI_mul, zI_n]) <;> (first | rfl | (refine zI_eqI ?_; omega)))
      rw [e1]
      refine x_hi (by omega) (fun g => br1 ?_) (fun g => br0 (brT (by decide) (k2 ?_)))
      · have el : ly (wk P q 0 h 0).1 = 1 := by unfold ly; rw [if_pos (by omega)]
        rw [show ((-1 : Int32) + 2) = zI 1 from by decide]
        refine x_stand (x_far hx hP hI hc g (by omega) g3 ?_)
        have z1' : hbF P h q (cn P m np) (ly (wk P q 0 h 0).1) = (wk P (cn P m np - (q + 1)) (q + 1) ((wk P q 0 h 0).1 + 1) 1).1 := by unfold hbF; rw [el]
        rw [← z1']
        by_cases c : ab (hbF P h q (cn P m np) (ly (wk P q 0 h 0).1) - t) < l
        · exact brF (by ((try simp only [zI_lit, zI_neg, zI_add, zI_sub, zI_mul, zI_n, ne_eq]) <;> (first | rw [zI_lt (by omega) (by omega)] | rw [zI_le (by omega) (by omega)] | rw [zI_eq (by omega) (by omega)]); try omega)) (brT (by decide) (k1 c))
        · exact brT (by ((try simp only [zI_lit, zI_neg, zI_add, zI_sub, zI_mul, zI_n, ne_eq]) <;> (first | rw [zI_lt (by omega) (by omega)] | rw [zI_le (by omega) (by omega)] | rw [zI_eq (by omega) (by omega)]); try omega)) (brT (by decide) (k2 c))
      · have el : ly (wk P q 0 h 0).1 = 0 := by unfold ly; rw [if_neg (by omega)]
        rw [el]; omega
    refine ⟨3, brF (by decide) ?_⟩
    have e1 : zI (wk P q 0 h 0).1 + -1 = zI ((wk P q 0 h 0).1 - 1) := by ((try simp only [zI_lit, zI_neg, zI_add, zI_sub, zI_mul, zI_n]) <;> (first | rfl | (refine zI_eqI ?_; omega)))
    rw [e1]
    refine x_hi (by omega) (fun g => br1 ?_) (fun g => br0 ?_)
    · have el : tk (wk P q 0 h 0).1 = -1 := by unfold tk; rw [if_pos (by omega)]
      rw [show (-1 : Int32) = zI (-1) from rfl]
      refine x_stand (x_far hx hP hI hc g (by omega) g3 ?_)
      have z1' : hbF P h q (cn P m np) (tk (wk P q 0 h 0).1) = (wk P (cn P m np - (q + 1)) (q + 1) ((wk P q 0 h 0).1 - 1) (-1)).1 := by unfold hbF; rw [el]; rfl
      rw [← z1']
      by_cases c : ab (hbF P h q (cn P m np) (tk (wk P q 0 h 0).1) - t) < ab (hbF P h q (cn P m np) 0 - t)
      · rw [if_pos c] at hv
        refine brF (by ((try simp only [zI_lit, zI_neg, zI_add, zI_sub, zI_mul, zI_n, ne_eq]) <;> (first | rw [zI_lt (by omega) (by omega)] | rw [zI_le (by omega) (by omega)] | rw [zI_eq (by omega) (by omega)]); try omega)) (second _ _ (by omega) (fun d => ?_) (fun d => ?_))
        · rw [if_pos d] at hv; exact hv
        · rw [if_neg d] at hv; exact hv
      · rw [if_neg c] at hv
        refine brT (by ((try simp only [zI_lit, zI_neg, zI_add, zI_sub, zI_mul, zI_n, ne_eq]) <;> (first | rw [zI_lt (by omega) (by omega)] | rw [zI_le (by omega) (by omega)] | rw [zI_eq (by omega) (by omega)]); try omega)) (second _ _ (by omega) (fun d => ?_) (fun d => ?_))
        · rw [if_pos d] at hv; exact hv
        · rw [if_neg d] at hv; exact hv
    · have el : tk (wk P q 0 h 0).1 = 0 := by unfold tk; rw [if_neg (by omega)]
      have c : ¬ ab (hbF P h q (cn P m np) (tk (wk P q 0 h 0).1) - t) < ab (hbF P h q (cn P m np) 0 - t) := by rw [el]; omega
      rw [if_neg c] at hv
      refine second _ _ (by omega) (fun d => ?_) (fun d => ?_)
      · rw [if_pos d] at hv; exact hv
      · rw [if_neg d] at hv; exact hv
  · exact brF (by ((try simp only [zI_lit, zI_neg, zI_add, zI_sub, zI_mul, zI_n, ne_eq]) <;> (first | rw [zI_lt (by omega) (by omega)] | rw [zI_le (by omega) (by omega)] | rw [zI_eq (by omega) (by omega)]); try omega)) (bad (fun g => g4 (by have := g.2.2.2; rw [et] at this; exact this)))
set_option maxHeartbeats 4000000 in
theorem st_15 : ∀ (s_above : Int64) (s_below : Int64) (s_badCalls : Int32) (s_noCalls : Int32) (s_fullCalls : Int32) (s_road_high : Int32) (s_road_low : Int32) (s_road_passers_size : Int32) (s_road_passers_cells : Nat → Int32) (s_road_beasts_size : Int32) (s_road_beasts_cells : Nat → Int32) (s_road_checks_size : Int32) (s_road_checks_cells : Nat → Int32) (s_road_looks_size : Int32) (s_road_looks_cells : Nat → Int32) (s_trial_high : Int32) (s_trial_low : Int32) (s_trial_passers_size : Int32) (s_trial_passers_cells : Nat → Int32) (s_trial_beasts_size : Int32) (s_trial_beasts_cells : Nat → Int32) (s_trial_checks_size : Int32) (s_trial_checks_cells : Nat → Int32) (s_trial_looks_size : Int32) (s_trial_looks_cells : Nat → Int32) (s_text_length : Int32) (s_text_place : Int32) (s_text_next : Int32) (s_text_bytes : Nat → Int32) (s_text_items_size : Int32) (s_text_items_cells : Nat → Int32) (s_hiring_men : Int32) (s_hiring_goal : Int32) (s_hiring_goalMen : Int32) (s_hiring_fewest : Nat → Int32) (s_hiring_gains : Nat → Int32) (s_spread_now : Nat → Int64) (s_spread_later : Nat → Int64) (s_choices : Nat → Int32) (s_ends : Nat → Int32) (s_laterEnds : Nat → Int32) (s1_above : Int64) (s1_below : Int64) (s1_typed : Int32) (s1_at : Int32) (s1_start : Int32) (s1_sort : Int32) (s1_value : Int32) (s1_fault : Int32) (s1_itemsMany : Int32) (s1_goneHeight : Int32) (s1_goneDid : Int32) (s1_now : Nat → Int32) (s1_isKept : Nat → Int32) (s1_refused : Nat → Int32) (s1_text : Nat → Int32) (s1_items : Nat → Int32) (s1_did : Nat → Int32) (s1_fewest : Nat → Int32) (s1_chosen : Nat → Int32) (s1_ends : Nat → Int32) (s1_rows : Nat → Int32) (s1_ways : Nat → Int64) (s1_then : Nat → Int64) (o0 : Option RD) (o1 : Option RD) (v1 v2 v3 v4 : Int32), RelS s_above s_below s_badCalls s_noCalls s_fullCalls s_road_high s_road_low s_road_passers_size s_road_passers_cells s_road_beasts_size s_road_beasts_cells s_road_checks_size s_road_checks_cells s_road_looks_size s_road_looks_cells s_trial_high s_trial_low s_trial_passers_size s_trial_passers_cells s_trial_beasts_size s_trial_beasts_cells s_trial_checks_size s_trial_checks_cells s_trial_looks_size s_trial_looks_cells s_text_length s_text_place s_text_next s_text_bytes s_text_items_size s_text_items_cells s_hiring_men s_hiring_goal s_hiring_goalMen s_hiring_fewest s_hiring_gains s_spread_now s_spread_later s_choices s_ends s_laterEnds s1_above s1_below s1_typed s1_at s1_start s1_sort s1_value s1_fault s1_itemsMany s1_goneHeight s1_goneDid s1_now s1_isKept s1_refused s1_text s1_items s1_did s1_fewest s1_chosen s1_ends s1_rows s1_ways s1_then o0 o1 → pL_15 RelS s_above s_below s_badCalls s_noCalls s_fullCalls s_road_high s_road_low s_road_passers_size s_road_passers_cells s_road_beasts_size s_road_beasts_cells s_road_checks_size s_road_checks_cells s_road_looks_size s_road_looks_cells s_trial_high s_trial_low s_trial_passers_size s_trial_passers_cells s_trial_beasts_size s_trial_beasts_cells s_trial_checks_size s_trial_checks_cells s_trial_looks_size s_trial_looks_cells s_text_length s_text_place s_text_next s_text_bytes s_text_items_size s_text_items_cells s_hiring_men s_hiring_goal s_hiring_goalMen s_hiring_fewest s_hiring_gains s_spread_now s_spread_later s_choices s_ends s_laterEnds s1_above s1_below s1_typed s1_at s1_start s1_sort s1_value s1_fault s1_itemsMany s1_goneHeight s1_goneDid s1_now s1_isKept s1_refused s1_text s1_items s1_did s1_fewest s1_chosen s1_ends s1_rows s1_ways s1_then o0 o1 v1 v2 v3 v4 := by
  intro s_above s_below s_badCalls s_noCalls s_fullCalls s_road_high s_road_low s_road_passers_size s_road_passers_cells s_road_beasts_size s_road_beasts_cells s_road_checks_size s_road_checks_cells s_road_looks_size s_road_looks_cells s_trial_high s_trial_low s_trial_passers_size s_trial_passers_cells s_trial_beasts_size s_trial_beasts_cells s_trial_checks_size s_trial_checks_cells s_trial_looks_size s_trial_looks_cells s_text_length s_text_place s_text_next s_text_bytes s_text_items_size s_text_items_cells s_hiring_men s_hiring_goal s_hiring_goalMen s_hiring_fewest s_hiring_gains s_spread_now s_spread_later s_choices s_ends s_laterEnds s1_above s1_below s1_typed s1_at s1_start s1_sort s1_value s1_fault s1_itemsMany s1_goneHeight s1_goneDid s1_now s1_isKept s1_refused s1_text s1_items s1_did s1_fewest s1_chosen s1_ends s1_rows s1_ways s1_then o0 o1 v1 v2 v3 v4 hR
  obtain ⟨hRd, hI0, hI1, hT, hab, hbe, hb, hn, hfu⟩ := hR
  unfold pL_15
  obtain ⟨h, lo, np, nb, nc, nl, P, B, C, L, hok, hx, hm⟩ := id hRd
  obtain ⟨x1, x2, x3, x4, x5, x6, x7, x8, x9, x10⟩ := id hx
  obtain ⟨m1, m2, m3, m4, m5, m6, m7, m8, m9, m10⟩ := id hm
  dsimp only at x1 x2 x3 x4 x5 x6 x7 x8 x9 x10
  have hP := hok.2.2.1
  have n1 := hP.1
  subst x1 x2 x3 x5 x7 x9
  have hh := hok.1
  obtain ⟨y1, rfl, hz1⟩ := zI_ex v1
  obtain ⟨y2, rfl, hz2⟩ := zI_ex v2
  obtain ⟨y3, rfl, hz3⟩ := zI_ex v3
  refine x_adv x4 hP hh hz1 hz2 hz3 (fun g => ?_) (fun g => ?_)
  · refine m_adv m1 m3 m7 hP hh hz1 hz2 hz3 (fun _ => ?_) (fun g' => absurd g' g)
    exact ⟨fun _ => ⟨hRd, hI0, hI1, hT, hab, hbe, by rw [upd_s, hb], (upd_n _ _ (by omega)).trans hn, (upd_n _ _ (by omega)).trans hfu⟩, fun z => z rfl⟩
  · refine m_adv m1 m3 m7 hP hh hz1 hz2 hz3 (fun g' => absurd g g') (fun _ => ?_)
    exact ⟨fun _ => ⟨hRd, hI0, hI1, hT, hab, hbe, hb, hn, hfu⟩, fun z => z rfl⟩
/-! the treaty -/
def fa (P : Nat → Nat → Int) (v : Int) : Nat → Int
  | 0 => 0
  | n + 1 => fa P v n + ab (v - P n 3)
theorem fa_b {P : Nat → Nat → Int} {v : Int} {np : Nat} (hP : okP np P) (hv : 0 ≤ v ∧ v ≤ 30) : ∀ n : Nat, n ≤ np → 0 ≤ fa P v n ∧ fa P v n ≤ 30 * (n : Int)
  | 0, _ => ⟨Int.le_refl 0, Int.le_refl 0⟩
  | n + 1, h => by
    have ih := fa_b hP hv n (by omega)
    have o := (hP.2.1 n (by omega)).2.2.2.1
    have a1 := ab_n (v - P n 3)
    have a2 := ab_b (z := v - P n 3) (b := 30) (by omega)
    show 0 ≤ fa P v n + ab (v - P n 3) ∧ fa P v n + ab (v - P n 3) ≤ _
    omega
theorem x_ffa4 {np : Nat} {cells : Nat → Int32} {P : Nat → Nat → Int} (hx : rowsIn 6 np 0 cells P) (hP : okP np P) {v : Int} (hv : 0 ≤ v ∧ v ≤ 30) {kx : Int32 → Prop} : ∀ (j i : Nat), i + j = np → kx (zI (fa P v np)) → pX11_farFromAll_4 (zI np) cells kx (j + 1) (zI v) (zI (fa P v i)) (zI i)
  | 0, i, hi, hk => by
    have h12 := hP.1
    rw [show i = np by omega]
    exact brT (by ((try simp only [zI_lit, zI_neg, zI_add, zI_sub, zI_mul, zI_n, ne_eq]) <;> (first | rw [zI_lt (by omega) (by omega)] | rw [zI_le (by omega) (by omega)] | rw [zI_eq (by omega) (by omega)]); try omega)) hk
  | j + 1, i, hi, hk => by
    have h12 := hP.1
    have o := (hP.2.1 i (by omega)).2.2.2.1
    have e1 : zI (i : Int) + 1 = zI ((i + 1 : Nat) : Int) := by ((try simp only [zI_lit, zI_neg, zI_add, zI_sub, zI_mul, zI_n]) <;> (first | rfl | (refine zI_eqI ?_; omega)))
    refine brF (by ((try simp only [zI_lit, zI_neg, zI_add, zI_sub, zI_mul, zI_n, ne_eq]) <;> (first | rw [zI_lt (by omega) (by omega)] | rw [zI_le (by omega) (by omega)] | rw [zI_eq (by omega) (by omega)]); try omega)) (x_p hx h12 (by omega) 3 rfl (by omega) ?_)
    rw [e1, zI_sub, x_ab (by omega), zI_add]
    exact x_ffa4 hx hP hv j (i + 1) (by omega) hk
theorem x_ffa {np : Nat} {cells : Nat → Int32} {P : Nat → Nat → Int} (hx : rowsIn 6 np 0 cells P) (hP : okP np P) {v : Int} {V : Int32} (eV : V = zI v) (hv : 0 ≤ v ∧ v ≤ 30) {k : Int32 → Prop} (hk : k (zI (fa P v np))) : pX11_farFromAll (zI np) cells V k := by
  unfold pX11_farFromAll
  rw [eV]
  exact ⟨np + 1, x_ffa4 hx hP hv np 0 (by omega) hk⟩
def tr (P : Nat → Nat → Int) (np : Nat) : Nat → Int → Int → Int → Int
  | 0, _, b, _ => b
  | n + 1, v, b, s => if fa P v np < s then tr P np n (v + 1) v (fa P v np) else tr P np n (v + 1) b s
theorem x_tr25 {np : Nat} {cells : Nat → Int32} {P : Nat → Nat → Int} (hx : rowsIn 6 np 0 cells P) (hP : okP np P) {kx : Int32 → Prop} : ∀ (j : Nat) (v b s : Int), v + j = 31 → 0 ≤ v → 0 ≤ s ∧ s ≤ 999 → kx (zI (tr P np j v b s)) → pX11_treaty_25 (zI np) cells kx (j + 1) (zI b) (zI s) (zI v)
  | 0, v, b, s, hv, hv0, hs, hk => brT (by ((try simp only [zI_lit, zI_neg, zI_add, zI_sub, zI_mul, zI_n, ne_eq]) <;> (first | rw [zI_lt (by omega) (by omega)] | rw [zI_le (by omega) (by omega)] | rw [zI_eq (by omega) (by omega)]); try omega)) hk
  | j + 1, v, b, s, hv, hv0, hs, hk => by
    have h12 := hP.1
    have e1 : zI v + 1 = zI (v + 1) := by ((try simp only [zI_lit, zI_neg, zI_add, zI_sub, zI_mul, zI_n]) <;> (first | rfl | (refine zI_eqI ?_; omega)))
    have bf := fa_b (v := v) hP (by omega) np (by omega)
    unfold tr at hk
    refine brF (by ((try simp only [zI_lit, zI_neg, zI_add, zI_sub, zI_mul, zI_n, ne_eq]) <;> (first | rw [zI_lt (by omega) (by omega)] | rw [zI_le (by omega) (by omega)] | rw [zI_eq (by omega) (by omega)]); try omega)) (x_ffa hx hP rfl (by omega) ?_)
    rw [e1]
    by_cases g : fa P v np < s
    · rw [if_pos g] at hk
      exact brF (by ((try simp only [zI_lit, zI_neg, zI_add, zI_sub, zI_mul, zI_n, ne_eq]) <;> (first | rw [zI_lt (by omega) (by omega)] | rw [zI_le (by omega) (by omega)] | rw [zI_eq (by omega) (by omega)]); try omega)) (x_tr25 hx hP j _ _ _ (by omega) (by omega) (by omega) hk)
    · rw [if_neg g] at hk
      exact brT (by ((try simp only [zI_lit, zI_neg, zI_add, zI_sub, zI_mul, zI_n, ne_eq]) <;> (first | rw [zI_lt (by omega) (by omega)] | rw [zI_le (by omega) (by omega)] | rw [zI_eq (by omega) (by omega)]); try omega)) (x_tr25 hx hP j _ _ _ (by omega) (by omega) (by omega) hk)
theorem m_tr31 {np : Nat} {N : Nat → Int32} {P : Nat → Nat → Int} (e2 : N 2 = zI np) (hx : rowsIn 6 np (0 + 6) N P) (hP : okP np P) {v : Int} (hv : 0 ≤ v ∧ v ≤ 30) {b s : Int32} {kx : Int32 → Int32 → Int32 → Int32 → Prop} : ∀ (j i : Nat), i + j = np → kx b s (zI v) (zI (fa P v np)) → pX12_treaty_31 N kx (j + 1) b s (zI v) (zI (fa P v i)) (zI i)
  | 0, i, hi, hk => by
    have h12 := hP.1
    rw [show i = np by omega]
    exact brT (by rw [c2, e2]; ((try simp only [zI_lit, zI_neg, zI_add, zI_sub, zI_mul, zI_n, ne_eq]) <;> (first | rw [zI_lt (by omega) (by omega)] | rw [zI_le (by omega) (by omega)] | rw [zI_eq (by omega) (by omega)]); try omega)) hk
  | j + 1, i, hi, hk => by
    have h12 := hP.1
    have o := (hP.2.1 i (by omega)).2.2.2.1
    have e1 : zI (i : Int) + 1 = zI ((i + 1 : Nat) : Int) := by ((try simp only [zI_lit, zI_neg, zI_add, zI_sub, zI_mul, zI_n]) <;> (first | rfl | (refine zI_eqI ?_; omega)))
    refine brF (by rw [c2, e2]; ((try simp only [zI_lit, zI_neg, zI_add, zI_sub, zI_mul, zI_n, ne_eq]) <;> (first | rw [zI_lt (by omega) (by omega)] | rw [zI_le (by omega) (by omega)] | rw [zI_eq (by omega) (by omega)]); try omega)) (m_p hx h12 (by omega) 3 rfl (by omega) (m_ap (by omega) (by omega) ?_))
    rw [e1, zI_add]
    exact m_tr31 e2 hx hP hv j (i + 1) (by omega) hk
theorem m_tr19 {np : Nat} {N : Nat → Int32} {P : Nat → Nat → Int} (e2 : N 2 = zI np) (hx : rowsIn 6 np (0 + 6) N P) (hP : okP np P) {kx : Int32 → Prop} : ∀ (j : Nat) (v b s : Int), v + j = 31 → 0 ≤ v → 0 ≤ s ∧ s ≤ 999 → kx (zI (tr P np j v b s)) → pX12_treaty_19 N kx (j + 1) (zI b) (zI s) (zI v)
  | 0, v, b, s, hv, hv0, hs, hk => brT (by ((try simp only [zI_lit, zI_neg, zI_add, zI_sub, zI_mul, zI_n, ne_eq]) <;> (first | rw [zI_lt (by omega) (by omega)] | rw [zI_le (by omega) (by omega)] | rw [zI_eq (by omega) (by omega)]); try omega)) hk
  | j + 1, v, b, s, hv, hv0, hs, hk => by
    have h12 := hP.1
    have e1 : zI v + 1 = zI (v + 1) := by ((try simp only [zI_lit, zI_neg, zI_add, zI_sub, zI_mul, zI_n]) <;> (first | rfl | (refine zI_eqI ?_; omega)))
    have bf := fa_b (v := v) hP (by omega) np (by omega)
    unfold tr at hk
    refine brF (by ((try simp only [zI_lit, zI_neg, zI_add, zI_sub, zI_mul, zI_n, ne_eq]) <;> (first | rw [zI_lt (by omega) (by omega)] | rw [zI_le (by omega) (by omega)] | rw [zI_eq (by omega) (by omega)]); try omega)) ⟨np + 1, m_tr31 e2 hx hP (by omega) np 0 (by omega) ?_⟩
    by_cases g : fa P v np < s
    · rw [if_pos g] at hk
      refine brF (by ((try simp only [zI_lit, zI_neg, zI_add, zI_sub, zI_mul, zI_n, ne_eq]) <;> (first | rw [zI_lt (by omega) (by omega)] | rw [zI_le (by omega) (by omega)] | rw [zI_eq (by omega) (by omega)]); try omega)) ?_
      unfold pX12_treaty_75
      rw [e1]
      exact brF (by ((try simp only [zI_lit, zI_neg, zI_add, zI_sub, zI_mul, zI_n, ne_eq]) <;> (first | rw [zI_lt (by omega) (by omega)] | rw [zI_le (by omega) (by omega)] | rw [zI_eq (by omega) (by omega)]); try omega)) (m_tr19 e2 hx hP j _ _ _ (by omega) (by omega) (by omega) hk)
    · rw [if_neg g] at hk
      refine brT (by ((try simp only [zI_lit, zI_neg, zI_add, zI_sub, zI_mul, zI_n, ne_eq]) <;> (first | rw [zI_lt (by omega) (by omega)] | rw [zI_le (by omega) (by omega)] | rw [zI_eq (by omega) (by omega)]); try omega)) ?_
      unfold pX12_treaty_75
      rw [e1]
      exact brT (by ((try simp only [zI_lit, zI_neg, zI_add, zI_sub, zI_mul, zI_n, ne_eq]) <;> (first | rw [zI_lt (by omega) (by omega)] | rw [zI_le (by omega) (by omega)] | rw [zI_eq (by omega) (by omega)]); try omega)) (m_tr19 e2 hx hP j _ _ _ (by omega) (by omega) (by omega) hk)
set_option maxHeartbeats 4000000 in
theorem st_19 : ∀ (s_above : Int64) (s_below : Int64) (s_badCalls : Int32) (s_noCalls : Int32) (s_fullCalls : Int32) (s_road_high : Int32) (s_road_low : Int32) (s_road_passers_size : Int32) (s_road_passers_cells : Nat → Int32) (s_road_beasts_size : Int32) (s_road_beasts_cells : Nat → Int32) (s_road_checks_size : Int32) (s_road_checks_cells : Nat → Int32) (s_road_looks_size : Int32) (s_road_looks_cells : Nat → Int32) (s_trial_high : Int32) (s_trial_low : Int32) (s_trial_passers_size : Int32) (s_trial_passers_cells : Nat → Int32) (s_trial_beasts_size : Int32) (s_trial_beasts_cells : Nat → Int32) (s_trial_checks_size : Int32) (s_trial_checks_cells : Nat → Int32) (s_trial_looks_size : Int32) (s_trial_looks_cells : Nat → Int32) (s_text_length : Int32) (s_text_place : Int32) (s_text_next : Int32) (s_text_bytes : Nat → Int32) (s_text_items_size : Int32) (s_text_items_cells : Nat → Int32) (s_hiring_men : Int32) (s_hiring_goal : Int32) (s_hiring_goalMen : Int32) (s_hiring_fewest : Nat → Int32) (s_hiring_gains : Nat → Int32) (s_spread_now : Nat → Int64) (s_spread_later : Nat → Int64) (s_choices : Nat → Int32) (s_ends : Nat → Int32) (s_laterEnds : Nat → Int32) (s1_above : Int64) (s1_below : Int64) (s1_typed : Int32) (s1_at : Int32) (s1_start : Int32) (s1_sort : Int32) (s1_value : Int32) (s1_fault : Int32) (s1_itemsMany : Int32) (s1_goneHeight : Int32) (s1_goneDid : Int32) (s1_now : Nat → Int32) (s1_isKept : Nat → Int32) (s1_refused : Nat → Int32) (s1_text : Nat → Int32) (s1_items : Nat → Int32) (s1_did : Nat → Int32) (s1_fewest : Nat → Int32) (s1_chosen : Nat → Int32) (s1_ends : Nat → Int32) (s1_rows : Nat → Int32) (s1_ways : Nat → Int64) (s1_then : Nat → Int64) (o0 : Option RD) (o1 : Option RD) (v1 v2 v3 v4 : Int32), RelS s_above s_below s_badCalls s_noCalls s_fullCalls s_road_high s_road_low s_road_passers_size s_road_passers_cells s_road_beasts_size s_road_beasts_cells s_road_checks_size s_road_checks_cells s_road_looks_size s_road_looks_cells s_trial_high s_trial_low s_trial_passers_size s_trial_passers_cells s_trial_beasts_size s_trial_beasts_cells s_trial_checks_size s_trial_checks_cells s_trial_looks_size s_trial_looks_cells s_text_length s_text_place s_text_next s_text_bytes s_text_items_size s_text_items_cells s_hiring_men s_hiring_goal s_hiring_goalMen s_hiring_fewest s_hiring_gains s_spread_now s_spread_later s_choices s_ends s_laterEnds s1_above s1_below s1_typed s1_at s1_start s1_sort s1_value s1_fault s1_itemsMany s1_goneHeight s1_goneDid s1_now s1_isKept s1_refused s1_text s1_items s1_did s1_fewest s1_chosen s1_ends s1_rows s1_ways s1_then o0 o1 → pL_19 RelS s_above s_below s_badCalls s_noCalls s_fullCalls s_road_high s_road_low s_road_passers_size s_road_passers_cells s_road_beasts_size s_road_beasts_cells s_road_checks_size s_road_checks_cells s_road_looks_size s_road_looks_cells s_trial_high s_trial_low s_trial_passers_size s_trial_passers_cells s_trial_beasts_size s_trial_beasts_cells s_trial_checks_size s_trial_checks_cells s_trial_looks_size s_trial_looks_cells s_text_length s_text_place s_text_next s_text_bytes s_text_items_size s_text_items_cells s_hiring_men s_hiring_goal s_hiring_goalMen s_hiring_fewest s_hiring_gains s_spread_now s_spread_later s_choices s_ends s_laterEnds s1_above s1_below s1_typed s1_at s1_start s1_sort s1_value s1_fault s1_itemsMany s1_goneHeight s1_goneDid s1_now s1_isKept s1_refused s1_text s1_items s1_did s1_fewest s1_chosen s1_ends s1_rows s1_ways s1_then o0 o1 v1 v2 v3 v4 := by
  intro s_above s_below s_badCalls s_noCalls s_fullCalls s_road_high s_road_low s_road_passers_size s_road_passers_cells s_road_beasts_size s_road_beasts_cells s_road_checks_size s_road_checks_cells s_road_looks_size s_road_looks_cells s_trial_high s_trial_low s_trial_passers_size s_trial_passers_cells s_trial_beasts_size s_trial_beasts_cells s_trial_checks_size s_trial_checks_cells s_trial_looks_size s_trial_looks_cells s_text_length s_text_place s_text_next s_text_bytes s_text_items_size s_text_items_cells s_hiring_men s_hiring_goal s_hiring_goalMen s_hiring_fewest s_hiring_gains s_spread_now s_spread_later s_choices s_ends s_laterEnds s1_above s1_below s1_typed s1_at s1_start s1_sort s1_value s1_fault s1_itemsMany s1_goneHeight s1_goneDid s1_now s1_isKept s1_refused s1_text s1_items s1_did s1_fewest s1_chosen s1_ends s1_rows s1_ways s1_then o0 o1 v1 v2 v3 v4 hR
  obtain ⟨hRd, hI0, hI1, hT, hab, hbe, hb, hn, hfu⟩ := hR
  unfold pL_19 pX11_treaty pX7_size pX12_treaty
  obtain ⟨h, lo, np, nb, nc, nl, P, B, C, L, hok, hx, hm⟩ := id hRd
  obtain ⟨x1, x2, x3, x4, x5, x6, x7, x8, x9, x10⟩ := id hx
  obtain ⟨m1, m2, m3, m4, m5, m6, m7, m8, m9, m10⟩ := id hm
  dsimp only at x1 x2 x3 x4 x5 x6 x7 x8 x9 x10
  have hP := hok.2.2.1
  have n1 := hP.1
  subst x1 x2 x3 x5 x7 x9
  have d2 : s1_now 2 = zI np := m3
  rw [c2, d2]
  by_cases q : np = 0
  · refine brT (by rw [q]; rfl) (brT (by rw [q]; rfl) ?_)
    exact ⟨fun _ => ⟨hRd, hI0, hI1, hT, hab, hbe, hb, hn, hfu⟩, fun z => z rfl⟩
  · have bf := fa_b (v := 0) hP (by omega) np (by omega)
    refine brF (by ((try simp only [zI_lit, zI_neg, zI_add, zI_sub, zI_mul, zI_n, ne_eq]) <;> (first | rw [zI_lt (by omega) (by omega)] | rw [zI_le (by omega) (by omega)] | rw [zI_eq (by omega) (by omega)]); try omega)) (x_ffa x4 hP (v := 0) rfl (by omega) ⟨31, x_tr25 x4 hP 30 1 0 _ (by omega) (by omega) (by omega) ?_⟩)
    refine brF (by ((try simp only [zI_lit, zI_neg, zI_add, zI_sub, zI_mul, zI_n, ne_eq]) <;> (first | rw [zI_lt (by omega) (by omega)] | rw [zI_le (by omega) (by omega)] | rw [zI_eq (by omega) (by omega)]); try omega)) ⟨32, m_tr19 d2 m7 hP 31 0 0 999 (by omega) (by omega) (by omega) ?_⟩
    have e : tr P np 31 0 0 999 = tr P np 30 1 0 (fa P 0 np) := by
      show (if fa P 0 np < 999 then tr P np 30 (0 + 1) 0 (fa P 0 np) else tr P np 30 (0 + 1) 0 999) = _
      rw [if_pos (by omega)]; rfl
    rw [e]
    exact ⟨fun _ => ⟨hRd, hI0, hI1, hT, hab, hbe, hb, hn, hfu⟩, fun z => z rfl⟩
