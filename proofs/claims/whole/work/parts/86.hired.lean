/-! hired: following, and the reference -/
def ps (P C : Nat → Nat → Int) (np nc : Nat) (h : Int) : Nat → Int × Int
  | 0 => (h, 0)
  | i + 1 => ((gg P C np nc i (gw P C np i (ps P C np nc h i).1 (ps P C np nc h i).2).1 (gw P C np i (ps P C np nc h i).1 (ps P C np nc h i).2).2).1, (gw P C np i (ps P C np nc h i).1 (ps P C np nc h i).2).2)
def cm (P C : Nat → Nat → Int) (np nc : Nat) (h : Int) (i : Nat) : Int × Int := gw P C np i (ps P C np nc h i).1 (ps P C np nc h i).2
def ga (P C : Nat → Nat → Int) (np nc : Nat) (h : Int) (i : Nat) : Int := (gg P C np nc i (cm P C np nc h i).1 (cm P C np nc h i).2).1 - (cm P C np nc h i).1
def mn (P C : Nat → Nat → Int) (np nc : Nat) (h : Int) : Nat → Int
  | 0 => 0
  | i + 1 => mn P C np nc h i + ab (ga P C np nc h i)
theorem ps_s (P C : Nat → Nat → Int) (np nc : Nat) (h : Int) (i : Nat) : ps P C np nc h (i + 1) = ((gg P C np nc i (cm P C np nc h i).1 (cm P C np nc h i).2).1, (cm P C np nc h i).2) := rfl
theorem ps_b {P C : Nat → Nat → Int} {np nc : Nat} (hC : okC nc C) {h : Int} (hh : 0 ≤ h ∧ h ≤ 30) : ∀ i : Nat, i ≤ nc → (0 ≤ (ps P C np nc h i).1 ∧ (ps P C np nc h i).1 ≤ 30) ∧ -2 ≤ (ps P C np nc h i).2 ∧ (ps P C np nc h i).2 ≤ 1
  | 0, _ => ⟨hh, by show -2 ≤ (0 : Int) ∧ (0 : Int) ≤ 1; omega⟩
  | i + 1, hi => by
    have ih := ps_b (P := P) (np := np) hC hh i (by omega)
    have b1 := gw_b P C np i ih.1 ih.2
    exact ⟨(gg_b hC (by omega)).1.2, b1.2⟩
theorem cm_b {P C : Nat → Nat → Int} {np nc : Nat} (hC : okC nc C) {h : Int} (hh : 0 ≤ h ∧ h ≤ 30) {i : Nat} (hi : i ≤ nc) : (0 ≤ (cm P C np nc h i).1 ∧ (cm P C np nc h i).1 ≤ 30) ∧ -2 ≤ (cm P C np nc h i).2 ∧ (cm P C np nc h i).2 ≤ 1 := by
  have ih := ps_b (P := P) (np := np) hC hh i hi
  exact gw_b P C np i ih.1 ih.2
theorem mn_tel {P C : Nat → Nat → Int} {np nc : Nat} (hC : okC nc C) {h : Int} : ∀ i : Nat, i ≤ nc → mn P C np nc h i + cs P C np nc (nc - i) (cm P C np nc h i).1 (cm P C np nc h i).2 = cs P C np nc nc (cm P C np nc h 0).1 (cm P C np nc h 0).2
  | 0, _ => by
    show 0 + cs P C np nc (nc - 0) _ _ = _
    rw [Int.zero_add]; rfl
  | i + 1, hi => by
    have ih := mn_tel (P := P) (np := np) hC (h := h) i (by omega)
    rw [cs_gg (by omega), (gg_b hC (by omega)).2] at ih
    have e : gk P C np nc i (cm P C np nc h i).1 (cm P C np nc h i).2 (gg P C np nc i (cm P C np nc h i).1 (cm P C np nc h i).2).1 = ab (ga P C np nc h i) + cs P C np nc (nc - (i + 1)) (cm P C np nc h (i + 1)).1 (cm P C np nc h (i + 1)).2 := by
      unfold gk kf ga
      rw [ab_sym]
      rfl
    rw [e] at ih
    show mn P C np nc h i + ab (ga P C np nc h i) + _ = _
    omega
theorem mn_end {P C : Nat → Nat → Int} {np nc : Nat} (hC : okC nc C) {h : Int} : mn P C np nc h nc = cs P C np nc nc (cm P C np nc h 0).1 (cm P C np nc h 0).2 := by
  have e := mn_tel (P := P) (np := np) hC (h := h) nc (Nat.le_refl nc)
  rw [Nat.sub_self] at e
  have z : cs P C np nc 0 (cm P C np nc h nc).1 (cm P C np nc h nc).2 = 0 := rfl
  rw [z, Int.add_zero] at e
  exact e
section HF
variable {np nc : Nat} {cells cc : Nat → Int32} {P C : Nat → Nat → Int} {h : Int}
theorem x_fo12 (hx : rowsIn 6 np 0 cells P) (hP : okP np P) (hcx : rowsIn 3 nc 0 cc C) (hC : okC nc C) (hh : 0 ≤ h ∧ h ≤ 30) {F : Nat → Int32} (hF : xInv P C np nc F 0) {kx : Int32 → Int32 → Int32 → (Nat → Int32) → Prop} (hk : ∀ G M gs, (∀ q : Nat, q < nc → gs q = zI (ga P C np nc h q)) → kx (zI (mn P C np nc h nc)) G M gs) : ∀ (j i : Nat) (G M : Int32) (gs : Nat → Int32), i + j = nc → (∀ q : Nat, q < i → gs q = zI (ga P C np nc h q)) → pX3_follow_12 F (zI np) cells (zI nc) cc kx (j + 1) (zI (sd (ps P C np nc h i).1 (ps P C np nc h i).2)) (zI i) (zI (mn P C np nc h i)) G M gs
  | 0, i, G, M, gs, hi, hg => by
    have n5 := hC.1
    rw [show i = nc by omega] at hg ⊢
    by_cases z : nc = 5
    · exact brT (by ((try simp only [zI_lit, zI_neg, zI_add, zI_sub, zI_mul, zI_n, ne_eq]) <;> (first | rw [zI_lt (by omega) (by omega)] | rw [zI_le (by omega) (by omega)] | rw [zI_eq (by omega) (by omega)]); try omega)) (hk G M gs hg)
    · exact brF (by ((try simp only [zI_lit, zI_neg, zI_add, zI_sub, zI_mul, zI_n, ne_eq]) <;> (first | rw [zI_lt (by omega) (by omega)] | rw [zI_le (by omega) (by omega)] | rw [zI_eq (by omega) (by omega)]); try omega)) (brT (by ((try simp only [zI_lit, zI_neg, zI_add, zI_sub, zI_mul, zI_n, ne_eq]) <;> (first | rw [zI_lt (by omega) (by omega)] | rw [zI_le (by omega) (by omega)] | rw [zI_eq (by omega) (by omega)]); try omega)) (hk G M gs hg))
  | j + 1, i, G, M, gs, hi, hg => by
    have n5 := hC.1
    have b0 := ps_b (P := P) (np := np) hC hh i (by omega)
    have b1 := cm_b (P := P) (np := np) hC hh (i := i) (by omega)
    have bg := (gg_b (P := P) (np := np) hC (show i < nc by omega) (h := (cm P C np nc h i).1) (d := (cm P C np nc h i).2)).1
    have e1 : zI (i : Int) + 1 = zI ((i + 1 : Nat) : Int) := by ((try simp only [zI_lit, zI_neg, zI_add, zI_sub, zI_mul, zI_n]) <;> (first | rfl | (refine zI_eqI ?_; omega)))
    have e3 : (zI (i : Int)).toNatClampNeg = i := by ((try simp only [zI_lit, zI_neg, zI_add, zI_sub, zI_mul, zI_n]); rw [zI_clamp (by omega)]; omega)
    have ew : pa P C np i + (pa P C np (i + 1) - pa P C np i) = pa P C np (i + 1) := by have := pa_mono (P := P) (np := np) hC (show i < nc by omega); omega
    refine brF (by ((try simp only [zI_lit, zI_neg, zI_add, zI_sub, zI_mul, zI_n, ne_eq]) <;> (first | rw [zI_lt (by omega) (by omega)] | rw [zI_le (by omega) (by omega)] | rw [zI_eq (by omega) (by omega)]); try omega)) (brF (by ((try simp only [zI_lit, zI_neg, zI_add, zI_sub, zI_mul, zI_n, ne_eq]) <;> (first | rw [zI_lt (by omega) (by omega)] | rw [zI_le (by omega) (by omega)] | rw [zI_eq (by omega) (by omega)]); try omega)) (x_pah hx hP hcx hC (c := i) (by omega) rfl (x_pah hx hP hcx hC (c := i + 1) (by omega) e1 ?_)))
    refine x_walk hx hP (pa P C np (i + 1) - pa P C np i) (pa P C np i) (pa P C np (i + 1)) ew.symm _ _ (by rw [ew]; exact pa_le) b0.1 b0.2 ?_
    have ec : wk P (pa P C np (i + 1) - pa P C np i) (pa P C np i) (ps P C np nc h i).1 (ps P C np nc h i).2 = cm P C np nc h i := rfl
    rw [ec]
    have hs : ∀ K : Int32 → Int32 → Prop, K (zI (gg P C np nc i (cm P C np nc h i).1 (cm P C np nc h i).2).1) (zI (gg P C np nc i (cm P C np nc h i).1 (cm P C np nc h i).2).2) → pX3_seekGoal G M F (zI nc) cc (zI i) (zI (sd (cm P C np nc h i).1 (cm P C np nc h i).2)) K := fun K hK => x_seek hcx hC (by omega) (fun k a b e => hF k (by omega) b e) b1.1 b1.2 hK
    refine hs _ (x_highOf b1.1 b1.2 ⟨by ((try simp only [zI_lit, zI_neg, zI_add, zI_sub, zI_mul, zI_n]); rw [zI_in (by omega)]; omega), by ((try simp only [zI_lit, zI_neg, zI_add, zI_sub, zI_mul, zI_n]); rw [zI_in (by omega)]; omega), x_didOf b1.1 b1.2 (x_stand ?_)⟩)
    rw [e1, e3, upd_s, zI_sub, x_ab (by omega), zI_add]
    refine x_fo12 hx hP hcx hC hh hF hk j (i + 1) _ _ _ (by omega) (fun q hq => ?_)
    by_cases z : q = i
    · rw [z, upd_s]; rfl
    · rw [upd_n _ _ z]; exact hg q (by omega)
theorem x_hired {a : Int} {bc men G M : Int32} {F gs : Nat → Int32} (hx : rowsIn 6 np 0 cells P) (hP : okP np P) (hcx : rowsIn 3 nc 0 cc C) (hC : okC nc C) (hh : 0 ≤ h ∧ h ≤ 30) (ra : (-2147483648 ≤ a ∧ a < 2147483648)) {K : Int32 → Int32 → Int32 → Int32 → Int32 → (Nat → Int32) → (Nat → Int32) → Prop} (h0 : ¬ (-1 ≤ a ∧ a < nc) → K (-100) (bc + 1) men G M F gs) (h1 : -1 ≤ a ∧ a < nc → ∀ men' G' M' F' gs', K (zI (if a = -1 then cs P C np nc nc (cm P C np nc h 0).1 (cm P C np nc h 0).2 else ga P C np nc h a.toNat)) bc men' G' M' F' gs') : pX11_hired bc (zI h) (zI np) cells (zI nc) cc men G M F gs (zI a) K := by
  have n5 := hC.1
  have main : -1 ≤ a ∧ a < nc → pX11_hired_26 (zI h) (zI np) cells (zI nc) cc K (zI a) bc men G M F gs := fun g => by
    unfold pX11_hired_26 pX3_follow
    refine x_weigh hx hP hcx hC (fun G1 M1 F1 hF => x_first ⟨nc + 1, ?_⟩)
    refine x_fo12 (h := h) hx hP hcx hC hh hF (fun G2 M2 gs2 hg => ?_) nc 0 G1 M1 gs (by omega) (fun q hq => absurd hq (by omega))
    have hv := h1 g (zI (mn P C np nc h nc)) G2 M2 F1 gs2
    by_cases z : a = -1
    · rw [if_pos z, ← mn_end hC] at hv
      exact brT (by rw [z]; rfl) hv
    · rw [if_neg z] at hv
      refine brF (by ((try simp only [zI_lit, zI_neg, zI_add, zI_sub, zI_mul, zI_n, ne_eq]) <;> (first | rw [zI_lt (by omega) (by omega)] | rw [zI_le (by omega) (by omega)] | rw [zI_eq (by omega) (by omega)]); try omega)) ?_
      unfold pX3_gainAt
      refine brF (by ((try simp only [zI_lit, zI_neg, zI_add, zI_sub, zI_mul, zI_n, ne_eq]) <;> (first | rw [zI_lt (by omega) (by omega)] | rw [zI_le (by omega) (by omega)] | rw [zI_eq (by omega) (by omega)]); try omega)) (brF (by ((try simp only [zI_lit, zI_neg, zI_add, zI_sub, zI_mul, zI_n, ne_eq]) <;> (first | rw [zI_lt (by omega) (by omega)] | rw [zI_le (by omega) (by omega)] | rw [zI_eq (by omega) (by omega)]); try omega)) ⟨by ((try simp only [zI_lit, zI_neg, zI_add, zI_sub, zI_mul, zI_n]); rw [zI_in (by omega)]; omega), ?_⟩)
      rw [zI_clamp (by omega), hg _ (by omega)]
      exact hv
  unfold pX11_hired
  by_cases z : a = -1
  · exact brT (by rw [z]; rfl) (main (by omega))
  · refine brF (by ((try simp only [zI_lit, zI_neg, zI_add, zI_sub, zI_mul, zI_n, ne_eq]) <;> (first | rw [zI_lt (by omega) (by omega)] | rw [zI_le (by omega) (by omega)] | rw [zI_eq (by omega) (by omega)]); try omega)) (x_has (by omega) ra (fun g => br1 (main (by omega))) (fun g => br0 ?_))
    unfold pX11_badAs
    exact h0 (by omega)
end HF
section HM
variable {np nc : Nat} {N : Nat → Int32} {P C : Nat → Nat → Int}
theorem m_gb49 (e2 : N 2 = zI np) (hx : rowsIn 6 np (0 + 6) N P) (hP : okP np P) {fr up : Int} (hfr : -1 ≤ fr ∧ fr ≤ 99) (hup : 0 ≤ up ∧ up ≤ 99) {A B : Nat} (hAB : A ≤ B) (hB : B ≤ np) (hA : ∀ i, i < np → (P i 0 ≤ fr ↔ i < A)) (hB2 : ∀ i, i < np → (P i 0 ≤ up ↔ i < B)) {h d : Int} (hh : 0 ≤ h ∧ h ≤ 30) (hd : -2 ≤ d ∧ d ≤ 1) {kx : Int32 → Int32 → Prop} (hk : kx (zI (wk P (B - A) A h d).1) (zI (wk P (B - A) A h d).2)) : ∀ (j i : Nat), i + j = np → pX12_goBy_49 N kx (j + 1) (zI fr) (zI up) (zI i) (zI (wk P (min i B - A) A h d).1) (zI (wk P (min i B - A) A h d).2)
  | 0, i, hi => by
    have h12 := hP.1
    rw [show min i B = B by omega]
    exact brT (by rw [c2, e2]; ((try simp only [zI_lit, zI_neg, zI_add, zI_sub, zI_mul, zI_n, ne_eq]) <;> (first | rw [zI_lt (by omega) (by omega)] | rw [zI_le (by omega) (by omega)] | rw [zI_eq (by omega) (by omega)]); try omega)) hk
  | j + 1, i, hi => by
    have h12 := hP.1
    have o := (hP.2.1 i (by omega)).1
    have rcq := m_gb49 e2 hx hP hfr hup hAB hB hA hB2 hh hd hk j (i + 1) (by omega)
    have e1 : zI (i : Int) + 1 = zI ((i + 1 : Nat) : Int) := by ((try simp only [zI_lit, zI_neg, zI_add, zI_sub, zI_mul, zI_n]) <;> (first | rfl | (refine zI_eqI ?_; omega)))
    have b := wk_b P (min i B - A) A h d hh hd
    refine brF (by rw [c2, e2]; ((try simp only [zI_lit, zI_neg, zI_add, zI_sub, zI_mul, zI_n, ne_eq]) <;> (first | rw [zI_lt (by omega) (by omega)] | rw [zI_le (by omega) (by omega)] | rw [zI_eq (by omega) (by omega)]); try omega)) (m_p hx h12 (by omega) 0 rfl (by omega) ?_)
    rw [e1]
    by_cases g1 : P i 0 ≤ fr
    · have := (hA i (by omega)).1 g1
      rw [show min (i + 1) B - A = min i B - A by omega] at rcq
      exact brT (by ((try simp only [zI_lit, zI_neg, zI_add, zI_sub, zI_mul, zI_n, ne_eq]) <;> (first | rw [zI_lt (by omega) (by omega)] | rw [zI_le (by omega) (by omega)] | rw [zI_eq (by omega) (by omega)]); try omega)) rcq
    · have n1 : ¬ i < A := fun z => g1 ((hA i (by omega)).2 z)
      refine brF (by ((try simp only [zI_lit, zI_neg, zI_add, zI_sub, zI_mul, zI_n, ne_eq]) <;> (first | rw [zI_lt (by omega) (by omega)] | rw [zI_le (by omega) (by omega)] | rw [zI_eq (by omega) (by omega)]); try omega)) (m_p hx h12 (by omega) 0 rfl (by omega) ?_)
      by_cases g2 : P i 0 ≤ up
      · have n2 := (hB2 i (by omega)).1 g2
        refine brF (by ((try simp only [zI_lit, zI_neg, zI_add, zI_sub, zI_mul, zI_n, ne_eq]) <;> (first | rw [zI_lt (by omega) (by omega)] | rw [zI_le (by omega) (by omega)] | rw [zI_eq (by omega) (by omega)]); try omega)) (m_act hx hP (by omega) b.1 b.2 ?_)
        rw [zI_add]
        rw [show min (i + 1) B - A = (min i B - A) + 1 by omega, wk_s, show A + (min i B - A) = i by omega] at rcq
        exact rcq
      · have n2 : ¬ i < B := fun z => g2 ((hB2 i (by omega)).2 z)
        rw [show min (i + 1) B - A = min i B - A by omega] at rcq
        exact brT (by ((try simp only [zI_lit, zI_neg, zI_add, zI_sub, zI_mul, zI_n, ne_eq]) <;> (first | rw [zI_lt (by omega) (by omega)] | rw [zI_le (by omega) (by omega)] | rw [zI_eq (by omega) (by omega)]); try omega)) rcq
theorem m_goBy (e2 : N 2 = zI np) (hx : rowsIn 6 np (0 + 6) N P) (hP : okP np P) (hcx : rowsIn 3 nc (0 + 86) N C) (hC : okC nc C) {c : Nat} (hc : c < nc) {X : Int32} (eX : X = zI ((c : Int) - 1)) {h d : Int} (hh : 0 ≤ h ∧ h ≤ 30) (hd : -2 ≤ d ∧ d ≤ 1) {D : Int32} (eD : D = zI d) {gh gd : Int32} {k : Int32 → Int32 → Prop} (hk : k (zI (gw P C np c h d).1) (zI (gw P C np c h d).2)) : pX12_goBy gh gd N X (zI h) D k := by
  have n5 := hC.1
  have h12 := hP.1
  obtain ⟨o1, o2⟩ := hC.2.1 c hc
  have hm := pa_mono (P := P) (np := np) hC hc
  have hi : ∀ m : Int, ∀ i, i < np → (P i 0 ≤ m ↔ i < cn P m np) := fun m => cn_iff (P := P) m np hP.2.2
  have i1 : ((86 : Int32) + 3 * zI ((c : Int) - 1) + 3).toNatClampNeg = 0 + 86 + 3 * c + 0 := by ((try simp only [zI_lit, zI_neg, zI_add, zI_sub, zI_mul, zI_n]); rw [zI_clamp (by omega)]; omega)
  have main : ∀ fr : Int, -1 ≤ fr ∧ fr ≤ 99 → (∀ i, i < np → (P i 0 ≤ fr ↔ i < pa P C np c)) → pX12_goBy_19 N k (zI ((c : Int) - 1)) (zI h) (zI d) (zI fr) gh gd := fun fr hfr hA => by
    unfold pX12_goBy_19
    refine ⟨by ((try simp only [zI_lit, zI_neg, zI_add, zI_sub, zI_mul, zI_n]); rw [zI_in (by omega)]; omega), np + 1, ?_⟩
    rw [i1, hcx c 0 hc (by omega)]
    have q := m_gb49 e2 hx hP hfr o1 hm pa_le hA (by rw [pa_s]; exact hi _) hh hd hk np 0 (by omega)
    rw [show min 0 (pa P C np (c + 1)) - pa P C np c = 0 by omega] at q
    exact q
  unfold pX12_goBy
  rw [eX, eD, zn1]
  by_cases z : c = 0
  · refine brF (by ((try simp only [zI_lit, zI_neg, zI_add, zI_sub, zI_mul, zI_n, ne_eq]) <;> (first | rw [zI_lt (by omega) (by omega)] | rw [zI_le (by omega) (by omega)] | rw [zI_eq (by omega) (by omega)]); try omega)) (main (-1) (by omega) (fun i hi' => ?_))
    have := (hP.2.1 i hi').1
    unfold pa
    rw [if_pos z]
    omega
  · have i0 : ((86 : Int32) + 3 * zI ((c : Int) - 1)).toNatClampNeg = 0 + 86 + 3 * (c - 1) + 0 := by ((try simp only [zI_lit, zI_neg, zI_add, zI_sub, zI_mul, zI_n]); rw [zI_clamp (by omega)]; omega)
    obtain ⟨o3, o4⟩ := hC.2.1 (c - 1) (by omega)
    refine brT (by ((try simp only [zI_lit, zI_neg, zI_add, zI_sub, zI_mul, zI_n, ne_eq]) <;> (first | rw [zI_lt (by omega) (by omega)] | rw [zI_le (by omega) (by omega)] | rw [zI_eq (by omega) (by omega)]); try omega)) ⟨by ((try simp only [zI_lit, zI_neg, zI_add, zI_sub, zI_mul, zI_n]); rw [zI_in (by omega)]; omega), ?_⟩
    rw [i0, hcx (c - 1) 0 (by omega) (by omega)]
    refine main _ (by omega) ?_
    unfold pa
    rw [if_neg z]
    exact hi _
/-- what the reference keeps -/
def mInv (P C : Nat → Nat → Int) (np nc : Nat) (F : Nat → Int32) (c : Nat) : Prop := ∀ k, c ≤ k → k < nc → ∀ h d : Int, 0 ≤ h ∧ h ≤ 30 → -2 ≤ d ∧ d ≤ 1 → F (124 * k + pl h d) = zI (cs P C np nc (nc - k) h d)
theorem m_cost (e2 : N 2 = zI np) (e4 : N 4 = zI nc) (hx : rowsIn 6 np (0 + 6) N P) (hP : okP np P) (hcx : rowsIn 3 nc (0 + 86) N C) (hC : okC nc C) {c : Nat} (hc : c < nc) {F : Nat → Int32} (hF : mInv P C np nc F (c + 1)) {h d t : Int} (hh : 0 ≤ h ∧ h ≤ 30) (hd : -2 ≤ d ∧ d ≤ 1) (ht : 0 ≤ t ∧ t ≤ 30) {gh gd : Int32} {k : Int32 → Int32 → Int32 → Prop} (hk : ∀ gh' gd', k (zI (gk P C np nc c h d t)) gh' gd') : pX12_costOf gh gd N F (zI c) (zI h) (zI d) (zI t) k := by
  have n5 := hC.1
  unfold pX12_costOf
  refine m_ap (by omega) (by omega) ?_
  rw [c4, e4]
  by_cases z : c + 1 = nc
  · refine brT (by ((try simp only [zI_lit, zI_neg, zI_add, zI_sub, zI_mul, zI_n, ne_eq]) <;> (first | rw [zI_lt (by omega) (by omega)] | rw [zI_le (by omega) (by omega)] | rw [zI_eq (by omega) (by omega)]); try omega)) ?_
    have q := hk gh gd
    unfold gk kf at q
    rw [show nc - (c + 1) = 0 by omega] at q
    have e : ab (h - t) + cs P C np nc 0 (gw P C np (c + 1) t d).1 (gw P C np (c + 1) t d).2 = ab (h - t) := Int.add_zero _
    rw [e] at q
    exact q
  · have b1 := gw_b P C np (c + 1) (h := t) (d := d) ht hd
    have e3 : ((124 : Int32) * (zI (c : Int) + 1) + 4 * zI (gw P C np (c + 1) t d).1 + zI (gw P C np (c + 1) t d).2 + 2).toNatClampNeg = 124 * (c + 1) + pl (gw P C np (c + 1) t d).1 (gw P C np (c + 1) t d).2 := by unfold pl; ((try simp only [zI_lit, zI_neg, zI_add, zI_sub, zI_mul, zI_n]); rw [zI_clamp (by omega)]; omega)
    refine brF (by ((try simp only [zI_lit, zI_neg, zI_add, zI_sub, zI_mul, zI_n, ne_eq]) <;> (first | rw [zI_lt (by omega) (by omega)] | rw [zI_le (by omega) (by omega)] | rw [zI_eq (by omega) (by omega)]); try omega)) (m_goBy e2 hx hP hcx hC (c := c + 1) (by omega) (by ((try simp only [zI_lit, zI_neg, zI_add, zI_sub, zI_mul, zI_n]) <;> (first | rfl | (refine zI_eqI ?_; omega)))) ht hd rfl ⟨by ((try simp only [zI_lit, zI_neg, zI_add, zI_sub, zI_mul, zI_n]); rw [zI_in (by omega)]; omega), ?_⟩)
    rw [e3, hF (c + 1) (by omega) (by omega) _ _ b1.1 b1.2, zI_add]
    exact hk _ _
theorem m_bo32 (e2 : N 2 = zI np) (e4 : N 4 = zI nc) (hx : rowsIn 6 np (0 + 6) N P) (hP : okP np P) (hcx : rowsIn 3 nc (0 + 86) N C) (hC : okC nc C) {c : Nat} (hc : c < nc) {F : Nat → Int32} (hF : mInv P C np nc F (c + 1)) {h d : Int} (hh : 0 ≤ h ∧ h ≤ 30) (hd : -2 ≤ d ∧ d ≤ 1) {kx : Int32 → Int32 → Int32 → Int32 → Int32 → Int32 → Int32 → (Nat → Int32) → Prop} : ∀ (n : Nat) (t : Int) (p : Int × Int) (gh gd : Int32), t + n = C c 2 + 1 → C c 1 ≤ t → 0 ≤ p.2 ∧ p.2 ≤ 155 → (∀ gh' gd', kx (zI c) (zI h) (zI d) (zI (sk (gk P C np nc c h d) n t p).1) (zI (sk (gk P C np nc c h d) n t p).2) gh' gd' F) → pX12_bestOf_32 N kx (n + 1) (zI c) (zI h) (zI d) (zI p.1) (zI p.2) (zI t) gh gd F
  | 0, t, p, gh, gd, ht, ht1, hp, hk => by
    have n5 := hC.1
    obtain ⟨o1, o2, o3, o4⟩ := hC.2.1 c hc
    have i1 : ((86 : Int32) + 3 * zI (c : Int) + 2).toNatClampNeg = 0 + 86 + 3 * c + 2 := by ((try simp only [zI_lit, zI_neg, zI_add, zI_sub, zI_mul, zI_n]); rw [zI_clamp (by omega)]; omega)
    refine ⟨by ((try simp only [zI_lit, zI_neg, zI_add, zI_sub, zI_mul, zI_n]); rw [zI_in (by omega)]; omega), ?_⟩
    rw [i1, hcx c 2 hc (by omega)]
    exact brT (by ((try simp only [zI_lit, zI_neg, zI_add, zI_sub, zI_mul, zI_n, ne_eq]) <;> (first | rw [zI_lt (by omega) (by omega)] | rw [zI_le (by omega) (by omega)] | rw [zI_eq (by omega) (by omega)]); try omega)) (hk gh gd)
  | n + 1, t, p, gh, gd, ht, ht1, hp, hk => by
    have n5 := hC.1
    obtain ⟨o1, o2, o3, o4⟩ := hC.2.1 c hc
    have bk := gk_b (P := P) (np := np) hC hc (h := h) (d := d) (t := t) hh hd (by omega)
    have e1 : zI t + 1 = zI (t + 1) := by ((try simp only [zI_lit, zI_neg, zI_add, zI_sub, zI_mul, zI_n]) <;> (first | rfl | (refine zI_eqI ?_; omega)))
    have i1 : ((86 : Int32) + 3 * zI (c : Int) + 2).toNatClampNeg = 0 + 86 + 3 * c + 2 := by ((try simp only [zI_lit, zI_neg, zI_add, zI_sub, zI_mul, zI_n]); rw [zI_clamp (by omega)]; omega)
    refine ⟨by ((try simp only [zI_lit, zI_neg, zI_add, zI_sub, zI_mul, zI_n]); rw [zI_in (by omega)]; omega), ?_⟩
    rw [i1, hcx c 2 hc (by omega)]
    refine brF (by ((try simp only [zI_lit, zI_neg, zI_add, zI_sub, zI_mul, zI_n, ne_eq]) <;> (first | rw [zI_lt (by omega) (by omega)] | rw [zI_le (by omega) (by omega)] | rw [zI_eq (by omega) (by omega)]); try omega)) (m_cost e2 e4 hx hP hcx hC hc hF hh hd (by omega) (fun gh' gd' => ?_))
    have rcq := m_bo32 e2 e4 hx hP hcx hC hc hF hh hd (kx := kx) n (t + 1) _ gh' gd' (by omega) (by omega) (by split <;> ((try dsimp only); omega)) hk
    rw [e1]
    by_cases g : gk P C np nc c h d t < p.2
    · rw [if_pos g] at rcq
      exact brF (by ((try simp only [zI_lit, zI_neg, zI_add, zI_sub, zI_mul, zI_n, ne_eq]) <;> (first | rw [zI_lt (by omega) (by omega)] | rw [zI_le (by omega) (by omega)] | rw [zI_eq (by omega) (by omega)]); try omega)) rcq
    · rw [if_neg g] at rcq
      exact brT (by ((try simp only [zI_lit, zI_neg, zI_add, zI_sub, zI_mul, zI_n, ne_eq]) <;> (first | rw [zI_lt (by omega) (by omega)] | rw [zI_le (by omega) (by omega)] | rw [zI_eq (by omega) (by omega)]); try omega)) rcq
theorem m_best (e2 : N 2 = zI np) (e4 : N 4 = zI nc) (hx : rowsIn 6 np (0 + 6) N P) (hP : okP np P) (hcx : rowsIn 3 nc (0 + 86) N C) (hC : okC nc C) {c : Nat} (hc : c < nc) {F : Nat → Int32} (hF : mInv P C np nc F (c + 1)) {h d : Int} (hh : 0 ≤ h ∧ h ≤ 30) (hd : -2 ≤ d ∧ d ≤ 1) {H D : Int32} (eH : H = zI h) (eD : D = zI d) {gh gd : Int32} {k : Int32 → Int32 → Int32 → (Nat → Int32) → Prop} (hk : ∀ gh' gd', k (zI (gg P C np nc c h d).1) gh' gd' (upd F (124 * c + pl h d) (zI (cs P C np nc (nc - c) h d)))) : pX12_bestOf gh gd N F (zI c) H D k := by
  have n5 := hC.1
  obtain ⟨o1, o2, o3, o4⟩ := hC.2.1 c hc
  have bk := gk_b (P := P) (np := np) hC hc (h := h) (d := d) (t := C c 1) hh hd (by omega)
  have i1 : ((86 : Int32) + 3 * zI (c : Int) + 1).toNatClampNeg = 0 + 86 + 3 * c + 1 := by ((try simp only [zI_lit, zI_neg, zI_add, zI_sub, zI_mul, zI_n]); rw [zI_clamp (by omega)]; omega)
  have i2 : ((124 : Int32) * zI (c : Int) + 4 * zI h + zI d + 2).toNatClampNeg = 124 * c + pl h d := by unfold pl; ((try simp only [zI_lit, zI_neg, zI_add, zI_sub, zI_mul, zI_n]); rw [zI_clamp (by omega)]; omega)
  unfold pX12_bestOf
  rw [eH, eD]
  refine ⟨by ((try simp only [zI_lit, zI_neg, zI_add, zI_sub, zI_mul, zI_n]); rw [zI_in (by omega)]; omega), ?_⟩
  rw [i1, hcx c 1 hc (by omega)]
  refine m_cost e2 e4 hx hP hcx hC hc hF hh hd (by omega) (fun gh' gd' => ⟨(C c 2 - C c 1).toNat + 1, ?_⟩)
  rw [show zI (C c 1) + 1 = zI (C c 1 + 1) by ((try simp only [zI_lit, zI_neg, zI_add, zI_sub, zI_mul, zI_n]) <;> (first | rfl | (refine zI_eqI ?_; omega)))]
  refine m_bo32 e2 e4 hx hP hcx hC hc hF hh hd (C c 2 - C c 1).toNat (C c 1 + 1) (C c 1, gk P C np nc c h d (C c 1)) gh' gd' (by omega) (by omega) (by (try dsimp only); omega) (fun g1 g2 => ⟨by ((try simp only [zI_lit, zI_neg, zI_add, zI_sub, zI_mul, zI_n]); rw [zI_in (by omega)]; omega), ?_⟩)
  rw [i2]
  have q := hk g1 g2
  rw [cs_gg hc] at q
  exact q
theorem mInv_upd {F : Nat → Int32} {c : Nat} (hc : c < nc) (n5 : nc ≤ 5) (hF : mInv P C np nc F (c + 1)) {h d : Int} (hh : 0 ≤ h ∧ h ≤ 30) (hd : -2 ≤ d ∧ d ≤ 1) (v : Int32) : mInv P C np nc (upd F (124 * c + pl h d) v) (c + 1) := fun k a b h' d' g1 g2 => by
  rw [upd_n _ _ (by unfold pl; omega)]
  exact hF k a b h' d' g1 g2
theorem m_hi50 (e2 : N 2 = zI np) (e4 : N 4 = zI nc) (hx : rowsIn 6 np (0 + 6) N P) (hP : okP np P) (hcx : rowsIn 3 nc (0 + 86) N C) (hC : okC nc C) {c : Nat} (hc : c < nc) {X : Int32} {R : Nat → Int32} {kx : Int32 → Int32 → Int32 → Int32 → (Nat → Int32) → (Nat → Int32) → Prop} (hk : ∀ gh gd F, mInv P C np nc F c → kx X (zI c) gh gd R F) : ∀ (j s : Nat) (gh gd : Int32) (F : Nat → Int32), s + j = 124 → mInv P C np nc F (c + 1) → (∀ h d : Int, 0 ≤ h ∧ h ≤ 30 → -2 ≤ d ∧ d ≤ 1 → h * 4 + d + 2 < (s : Int) → F (124 * c + pl h d) = zI (cs P C np nc (nc - c) h d)) → pX12_hired_50 N kx (j + 1) X (zI c) (zI s) gh gd R F
  | 0, s, gh, gd, F, hs, hF, hG => by
    refine brT (by ((try simp only [zI_lit, zI_neg, zI_add, zI_sub, zI_mul, zI_n, ne_eq]) <;> (first | rw [zI_lt (by omega) (by omega)] | rw [zI_le (by omega) (by omega)] | rw [zI_eq (by omega) (by omega)]); try omega)) (hk gh gd F (fun k a b h d g1 g2 => ?_))
    by_cases z : k = c
    · rw [z]; exact hG h d g1 g2 (by omega)
    · exact hF k (by omega) b h d g1 g2
  | j + 1, s, gh, gd, F, hs, hF, hG => by
    have n5 := hC.1
    obtain ⟨h, d, est, hh, hd⟩ : ∃ h d : Int, (s : Int) = h * 4 + d + 2 ∧ (0 ≤ h ∧ h ≤ 30) ∧ -2 ≤ d ∧ d ≤ 1 := ⟨(s : Int) / 4, (s : Int) % 4 - 2, by omega, by omega, by omega⟩
    have e1 : zI (s : Int) + 1 = zI ((s + 1 : Nat) : Int) := by ((try simp only [zI_lit, zI_neg, zI_add, zI_sub, zI_mul, zI_n]) <;> (first | rfl | (refine zI_eqI ?_; omega)))
    have eh : zI (s : Int) / 4 = zI h := by rw [zI_div4 (by omega)]; refine zI_eqI ?_; omega
    have ed : zI (s : Int) - zI h * 4 - 2 = zI d := by ((try simp only [zI_lit, zI_neg, zI_add, zI_sub, zI_mul, zI_n]) <;> (first | rfl | (refine zI_eqI ?_; omega)))
    refine brF (by ((try simp only [zI_lit, zI_neg, zI_add, zI_sub, zI_mul, zI_n, ne_eq]) <;> (first | rw [zI_lt (by omega) (by omega)] | rw [zI_le (by omega) (by omega)] | rw [zI_eq (by omega) (by omega)]); try omega)) ?_
    rw [eh, e1]
    refine m_best e2 e4 hx hP hcx hC hc hF hh hd rfl ed (fun g1 g2 => ?_)
    refine m_hi50 e2 e4 hx hP hcx hC hc hk j (s + 1) g1 g2 _ (by omega) (mInv_upd hc n5 hF hh hd _) (fun h' d' a1 a2 a3 => ?_)
    by_cases z : h' * 4 + d' + 2 = (s : Int)
    · have zt : h' = h := by omega
      have zd : d' = d := by omega
      rw [zt, zd, upd_s]
    · rw [upd_n _ _ (by unfold pl; omega)]
      exact hG h' d' a1 a2 (by omega)
theorem m_hi44 (e2 : N 2 = zI np) (e4 : N 4 = zI nc) (hx : rowsIn 6 np (0 + 6) N P) (hP : okP np P) (hcx : rowsIn 3 nc (0 + 86) N C) (hC : okC nc C) {X : Int32} {R : Nat → Int32} {kx : Int32 → Int32 → Int32 → (Nat → Int32) → (Nat → Int32) → Prop} (hk : ∀ gh gd F, mInv P C np nc F 0 → kx X gh gd R F) : ∀ (c : Nat) (gh gd : Int32) (F : Nat → Int32), c ≤ nc → mInv P C np nc F c → pX12_hired_44 N kx (c + 1) X (zI ((c : Int) - 1)) gh gd R F
  | 0, gh, gd, F, hc, hF => brT (by ((try simp only [zI_lit, zI_neg, zI_add, zI_sub, zI_mul, zI_n, ne_eq]) <;> (first | rw [zI_lt (by omega) (by omega)] | rw [zI_le (by omega) (by omega)] | rw [zI_eq (by omega) (by omega)]); try omega)) (hk gh gd F hF)
  | c + 1, gh, gd, F, hc, hF => by
    have n5 := hC.1
    rw [show (((c + 1 : Nat) : Int) - 1) = (c : Int) by omega]
    refine brF (by ((try simp only [zI_lit, zI_neg, zI_add, zI_sub, zI_mul, zI_n, ne_eq]) <;> (first | rw [zI_lt (by omega) (by omega)] | rw [zI_le (by omega) (by omega)] | rw [zI_eq (by omega) (by omega)]); try omega)) ⟨125, m_hi50 e2 e4 hx hP hcx hC (by omega) (fun g1 g2 F1 hF1 => ?_) 124 0 gh gd F (by omega) hF (fun h d a1 a2 a3 => absurd a3 (by omega))⟩
    rw [show zI (c : Int) + -1 = zI ((c : Int) - 1) by ((try simp only [zI_lit, zI_neg, zI_add, zI_sub, zI_mul, zI_n]) <;> (first | rfl | (refine zI_eqI ?_; omega)))]
    exact m_hi44 e2 e4 hx hP hcx hC hk c g1 g2 F1 (by omega) hF1
theorem m_hi121 (e2 : N 2 = zI np) (e4 : N 4 = zI nc) (hx : rowsIn 6 np (0 + 6) N P) (hP : okP np P) (hcx : rowsIn 3 nc (0 + 86) N C) (hC : okC nc C) {h : Int} (hh : 0 ≤ h ∧ h ≤ 30) {a : Nat} (ha : a < nc) {X : Int32} {R : Nat → Int32} {k kx : Int32 → Int32 → Int32 → (Nat → Int32) → (Nat → Int32) → Prop} (hk : ∀ gh gd F, k (zI (ga P C np nc h a)) gh gd R F) : ∀ (j c : Nat) (gh gd : Int32) (F : Nat → Int32), c + j = a → mInv P C np nc F 0 → pX12_hired_121 N k kx (j + 1) (zI a) (zI (cm P C np nc h c).1) (zI (cm P C np nc h c).2) X (zI c) gh gd R F
  | 0, c, gh, gd, F, hc, hF => by
    have n5 := hC.1
    have b1 := cm_b (P := P) (np := np) hC hh (i := c) (by omega)
    refine brF (by ((try simp only [zI_lit, zI_neg, zI_add, zI_sub, zI_mul, zI_n, ne_eq]) <;> (first | rw [zI_lt (by omega) (by omega)] | rw [zI_le (by omega) (by omega)] | rw [zI_eq (by omega) (by omega)]); try omega)) (m_best e2 e4 hx hP hcx hC (by omega) (fun k a b => hF k (by omega) b) b1.1 b1.2 rfl rfl (fun g1 g2 => brT (by ((try simp only [zI_lit, zI_neg, zI_add, zI_sub, zI_mul, zI_n, ne_eq]) <;> (first | rw [zI_lt (by omega) (by omega)] | rw [zI_le (by omega) (by omega)] | rw [zI_eq (by omega) (by omega)]); try omega)) ?_))
    rw [zI_sub]
    have q := hk g1 g2 (upd F (124 * c + pl (cm P C np nc h c).1 (cm P C np nc h c).2) (zI (cs P C np nc (nc - c) (cm P C np nc h c).1 (cm P C np nc h c).2)))
    unfold ga at q
    rw [show a = c by omega] at q
    exact q
  | j + 1, c, gh, gd, F, hc, hF => by
    have n5 := hC.1
    have b1 := cm_b (P := P) (np := np) hC hh (i := c) (by omega)
    have bg := (gg_b (P := P) (np := np) hC (show c < nc by omega) (h := (cm P C np nc h c).1) (d := (cm P C np nc h c).2)).1
    have e1 : zI (c : Int) + 1 = zI ((c + 1 : Nat) : Int) := by ((try simp only [zI_lit, zI_neg, zI_add, zI_sub, zI_mul, zI_n]) <;> (first | rfl | (refine zI_eqI ?_; omega)))
    refine brF (by ((try simp only [zI_lit, zI_neg, zI_add, zI_sub, zI_mul, zI_n, ne_eq]) <;> (first | rw [zI_lt (by omega) (by omega)] | rw [zI_le (by omega) (by omega)] | rw [zI_eq (by omega) (by omega)]); try omega)) (m_best e2 e4 hx hP hcx hC (by omega) (fun k a b => hF k (by omega) b) b1.1 b1.2 rfl rfl (fun g1 g2 => brF (by ((try simp only [zI_lit, zI_neg, zI_add, zI_sub, zI_mul, zI_n, ne_eq]) <;> (first | rw [zI_lt (by omega) (by omega)] | rw [zI_le (by omega) (by omega)] | rw [zI_eq (by omega) (by omega)]); try omega)) ?_))
    refine m_goBy e2 hx hP hcx hC (c := c + 1) (by omega) (by ((try simp only [zI_lit, zI_neg, zI_add, zI_sub, zI_mul, zI_n]) <;> (first | rfl | (refine zI_eqI ?_; omega)))) bg.2 b1.2 rfl ?_
    rw [e1]
    refine m_hi121 e2 e4 hx hP hcx hC hh ha hk j (c + 1) _ _ _ (by omega) (fun k a b h' d' q1 q2 => ?_)
    by_cases z : 124 * k + pl h' d' = 124 * c + pl (cm P C np nc h c).1 (cm P C np nc h c).2
    · have zk : k = c := by unfold pl at z; omega
      have zh : h' = (cm P C np nc h c).1 := by unfold pl at z; omega
      have zd : d' = (cm P C np nc h c).2 := by unfold pl at z; omega
      rw [z, upd_s, zk, zh, zd]
    · rw [upd_n _ _ z]
      exact hF k a b h' d' q1 q2
theorem m_hired {h a : Int} {gh gd : Int32} {R F : Nat → Int32} (e0 : N 0 = zI h) (e2 : N 2 = zI np) (e4 : N 4 = zI nc) (hx : rowsIn 6 np (0 + 6) N P) (hP : okP np P) (hcx : rowsIn 3 nc (0 + 86) N C) (hC : okC nc C) (hh : 0 ≤ h ∧ h ≤ 30) (ra : (-2147483648 ≤ a ∧ a < 2147483648)) {K : Int32 → Int32 → Int32 → (Nat → Int32) → (Nat → Int32) → Prop} (h0 : ¬ (-1 ≤ a ∧ a < nc) → K (-100) gh gd (upd R 0 (R 0 + 1)) F) (h1 : -1 ≤ a ∧ a < nc → ∀ gh' gd' F', K (zI (if a = -1 then cs P C np nc nc (cm P C np nc h 0).1 (cm P C np nc h 0).2 else ga P C np nc h a.toNat)) gh' gd' R F') : pX12_hired gh gd N R F (zI a) K := by
  have n5 := hC.1
  unfold pX12_hired
  rw [c4, e4, c0, e0]
  refine m_wi (b := -1) (c := (nc : Int) - 1) rfl (by ((try simp only [zI_lit, zI_neg, zI_add, zI_sub, zI_mul, zI_n]) <;> (first | rfl | (refine zI_eqI ?_; omega)))) ra (by omega) (by omega) (fun g => br1 ?_) (fun g => br0 ((m_bad _ _).mpr (h0 (by omega))))
  have hv := h1 (by omega)
  by_cases z : nc = 0
  · refine brT (by ((try simp only [zI_lit, zI_neg, zI_add, zI_sub, zI_mul, zI_n, ne_eq]) <;> (first | rw [zI_lt (by omega) (by omega)] | rw [zI_le (by omega) (by omega)] | rw [zI_eq (by omega) (by omega)]); try omega)) ?_
    rw [if_pos (by omega)] at hv
    have q := hv gh gd F
    have e : ∀ x y : Int, cs P C np nc nc x y = 0 := fun x y => by rw [z]; rfl
    rw [e] at q
    exact q
  · refine brF (by ((try simp only [zI_lit, zI_neg, zI_add, zI_sub, zI_mul, zI_n, ne_eq]) <;> (first | rw [zI_lt (by omega) (by omega)] | rw [zI_le (by omega) (by omega)] | rw [zI_eq (by omega) (by omega)]); try omega)) ⟨nc + 1, ?_⟩
    rw [show zI (nc : Int) - 1 = zI ((nc : Int) - 1) by ((try simp only [zI_lit, zI_neg, zI_add, zI_sub, zI_mul, zI_n]) <;> (first | rfl | (refine zI_eqI ?_; omega)))]
    refine m_hi44 e2 e4 hx hP hcx hC (fun g1 g2 F1 hF => ?_) nc gh gd F (by omega) (fun k a b => absurd b (by omega))
    refine m_goBy e2 hx hP hcx hC (c := 0) (by omega) rfl hh (d := 0) (by omega) rfl ?_
    have b1 := cm_b (P := P) (np := np) hC hh (i := 0) (by omega)
    have ec : gw P C np 0 h 0 = cm P C np nc h 0 := rfl
    have e3 : ((4 : Int32) * zI (cm P C np nc h 0).1 + zI (cm P C np nc h 0).2 + 2).toNatClampNeg = 124 * 0 + pl (cm P C np nc h 0).1 (cm P C np nc h 0).2 := by unfold pl; ((try simp only [zI_lit, zI_neg, zI_add, zI_sub, zI_mul, zI_n]); rw [zI_clamp (by omega)]; omega)
    rw [ec]
    refine ⟨by ((try simp only [zI_lit, zI_neg, zI_add, zI_sub, zI_mul, zI_n]); rw [zI_in (by omega)]; omega), ?_⟩
    rw [e3, hF 0 (by omega) (by omega) _ _ b1.1 b1.2]
    by_cases y : a = -1
    · rw [if_pos y] at hv
      refine ⟨1, brT (by ((try simp only [zI_lit, zI_neg, zI_add, zI_sub, zI_mul, zI_n, ne_eq]) <;> (first | rw [zI_lt (by omega) (by omega)] | rw [zI_le (by omega) (by omega)] | rw [zI_eq (by omega) (by omega)]); try omega)) (hv _ _ _)⟩
    · rw [if_neg y] at hv
      obtain ⟨q, rfl⟩ : ∃ q : Nat, a = (q : Int) := ⟨a.toNat, by omega⟩
      rw [Int.toNat_natCast] at hv
      exact ⟨q + 1, m_hi121 e2 e4 hx hP hcx hC hh (by omega) hv q 0 _ _ F1 (by omega) hF⟩
end HM
set_option maxHeartbeats 4000000 in
theorem st_17 : ∀ (s_above : Int64) (s_below : Int64) (s_badCalls : Int32) (s_noCalls : Int32) (s_fullCalls : Int32) (s_road_high : Int32) (s_road_low : Int32) (s_road_passers_size : Int32) (s_road_passers_cells : Nat → Int32) (s_road_beasts_size : Int32) (s_road_beasts_cells : Nat → Int32) (s_road_checks_size : Int32) (s_road_checks_cells : Nat → Int32) (s_road_looks_size : Int32) (s_road_looks_cells : Nat → Int32) (s_trial_high : Int32) (s_trial_low : Int32) (s_trial_passers_size : Int32) (s_trial_passers_cells : Nat → Int32) (s_trial_beasts_size : Int32) (s_trial_beasts_cells : Nat → Int32) (s_trial_checks_size : Int32) (s_trial_checks_cells : Nat → Int32) (s_trial_looks_size : Int32) (s_trial_looks_cells : Nat → Int32) (s_text_length : Int32) (s_text_place : Int32) (s_text_next : Int32) (s_text_bytes : Nat → Int32) (s_text_items_size : Int32) (s_text_items_cells : Nat → Int32) (s_hiring_men : Int32) (s_hiring_goal : Int32) (s_hiring_goalMen : Int32) (s_hiring_fewest : Nat → Int32) (s_hiring_gains : Nat → Int32) (s_spread_now : Nat → Int64) (s_spread_later : Nat → Int64) (s_choices : Nat → Int32) (s_ends : Nat → Int32) (s_laterEnds : Nat → Int32) (s1_above : Int64) (s1_below : Int64) (s1_typed : Int32) (s1_at : Int32) (s1_start : Int32) (s1_sort : Int32) (s1_value : Int32) (s1_fault : Int32) (s1_itemsMany : Int32) (s1_goneHeight : Int32) (s1_goneDid : Int32) (s1_now : Nat → Int32) (s1_isKept : Nat → Int32) (s1_refused : Nat → Int32) (s1_text : Nat → Int32) (s1_items : Nat → Int32) (s1_did : Nat → Int32) (s1_fewest : Nat → Int32) (s1_chosen : Nat → Int32) (s1_ends : Nat → Int32) (s1_rows : Nat → Int32) (s1_ways : Nat → Int64) (s1_then : Nat → Int64) (o0 : Option RD) (o1 : Option RD) (v1 v2 v3 v4 : Int32), RelS s_above s_below s_badCalls s_noCalls s_fullCalls s_road_high s_road_low s_road_passers_size s_road_passers_cells s_road_beasts_size s_road_beasts_cells s_road_checks_size s_road_checks_cells s_road_looks_size s_road_looks_cells s_trial_high s_trial_low s_trial_passers_size s_trial_passers_cells s_trial_beasts_size s_trial_beasts_cells s_trial_checks_size s_trial_checks_cells s_trial_looks_size s_trial_looks_cells s_text_length s_text_place s_text_next s_text_bytes s_text_items_size s_text_items_cells s_hiring_men s_hiring_goal s_hiring_goalMen s_hiring_fewest s_hiring_gains s_spread_now s_spread_later s_choices s_ends s_laterEnds s1_above s1_below s1_typed s1_at s1_start s1_sort s1_value s1_fault s1_itemsMany s1_goneHeight s1_goneDid s1_now s1_isKept s1_refused s1_text s1_items s1_did s1_fewest s1_chosen s1_ends s1_rows s1_ways s1_then o0 o1 → pL_17 RelS s_above s_below s_badCalls s_noCalls s_fullCalls s_road_high s_road_low s_road_passers_size s_road_passers_cells s_road_beasts_size s_road_beasts_cells s_road_checks_size s_road_checks_cells s_road_looks_size s_road_looks_cells s_trial_high s_trial_low s_trial_passers_size s_trial_passers_cells s_trial_beasts_size s_trial_beasts_cells s_trial_checks_size s_trial_checks_cells s_trial_looks_size s_trial_looks_cells s_text_length s_text_place s_text_next s_text_bytes s_text_items_size s_text_items_cells s_hiring_men s_hiring_goal s_hiring_goalMen s_hiring_fewest s_hiring_gains s_spread_now s_spread_later s_choices s_ends s_laterEnds s1_above s1_below s1_typed s1_at s1_start s1_sort s1_value s1_fault s1_itemsMany s1_goneHeight s1_goneDid s1_now s1_isKept s1_refused s1_text s1_items s1_did s1_fewest s1_chosen s1_ends s1_rows s1_ways s1_then o0 o1 v1 v2 v3 v4 := by
  intro s_above s_below s_badCalls s_noCalls s_fullCalls s_road_high s_road_low s_road_passers_size s_road_passers_cells s_road_beasts_size s_road_beasts_cells s_road_checks_size s_road_checks_cells s_road_looks_size s_road_looks_cells s_trial_high s_trial_low s_trial_passers_size s_trial_passers_cells s_trial_beasts_size s_trial_beasts_cells s_trial_checks_size s_trial_checks_cells s_trial_looks_size s_trial_looks_cells s_text_length s_text_place s_text_next s_text_bytes s_text_items_size s_text_items_cells s_hiring_men s_hiring_goal s_hiring_goalMen s_hiring_fewest s_hiring_gains s_spread_now s_spread_later s_choices s_ends s_laterEnds s1_above s1_below s1_typed s1_at s1_start s1_sort s1_value s1_fault s1_itemsMany s1_goneHeight s1_goneDid s1_now s1_isKept s1_refused s1_text s1_items s1_did s1_fewest s1_chosen s1_ends s1_rows s1_ways s1_then o0 o1 v1 v2 v3 v4 hR
  obtain ⟨hRd, hI0, hI1, hT, hab, hbe, hb, hn, hfu⟩ := hR
  unfold pL_17
  obtain ⟨h, lo, np, nb, nc, nl, P, B, C, L, hok, hx, hm⟩ := id hRd
  obtain ⟨x1, x2, x3, x4, x5, x6, x7, x8, x9, x10⟩ := id hx
  obtain ⟨m1, m2, m3, m4, m5, m6, m7, m8, m9, m10⟩ := id hm
  dsimp only at x1 x2 x3 x4 x5 x6 x7 x8 x9 x10
  have hP := hok.2.2.1
  have n1 := hP.1
  subst x1 x2 x3 x5 x7 x9
  have hh := hok.1
  have hC := hok.2.2.2.2.1
  obtain ⟨y1, rfl, hz1⟩ := zI_ex v1
  refine x_hired x4 hP x8 hC hh hz1 (fun g => ?_) (fun g _ _ _ _ _ => ?_)
  · refine m_hired m1 m3 m5 m7 hP m9 hC hh hz1 (fun _ => ?_) (fun g' => absurd g' g)
    exact ⟨fun _ => ⟨hRd, hI0, hI1, hT, hab, hbe, by rw [upd_s, hb], (upd_n _ _ (by omega)).trans hn, (upd_n _ _ (by omega)).trans hfu⟩, fun z => z rfl⟩
  · refine m_hired m1 m3 m5 m7 hP m9 hC hh hz1 (fun g' => absurd g g') (fun _ _ _ _ => ?_)
    exact ⟨fun _ => ⟨hRd, hI0, hI1, hT, hab, hbe, hb, hn, hfu⟩, fun z => z rfl⟩
