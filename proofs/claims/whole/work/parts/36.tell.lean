/-! a road as one thing, and what telling an item makes of it -/
abbrev AR : Type := Int × Int × Nat × Nat × Nat × Nat × (Nat → Nat → Int) × (Nat → Nat → Int) × (Nat → Nat → Int) × (Nat → Nat → Int)
def aOk (a : AR) : Prop := RoadOk a.1 a.2.1 a.2.2.1 a.2.2.2.1 a.2.2.2.2.1 a.2.2.2.2.2.1 a.2.2.2.2.2.2.1 a.2.2.2.2.2.2.2.1 a.2.2.2.2.2.2.2.2.1 a.2.2.2.2.2.2.2.2.2
def aX (a : AR) (r : RD) : Prop := RoadX a.1 a.2.1 a.2.2.1 a.2.2.2.1 a.2.2.2.2.1 a.2.2.2.2.2.1 a.2.2.2.2.2.2.1 a.2.2.2.2.2.2.2.1 a.2.2.2.2.2.2.2.2.1 a.2.2.2.2.2.2.2.2.2 r
def aM (a : AR) (N : Nat → Int32) (o : Nat) : Prop := RoadM a.1 a.2.1 a.2.2.1 a.2.2.2.1 a.2.2.2.2.1 a.2.2.2.2.2.1 a.2.2.2.2.2.2.1 a.2.2.2.2.2.2.2.1 a.2.2.2.2.2.2.2.2.1 a.2.2.2.2.2.2.2.2.2 N o
theorem aRel {a : AR} {r : RD} {N : Nat → Int32} {o : Nat} (h1 : aOk a) (h2 : aX a r) (h3 : aM a N o) : RoadRel r N o := ⟨_, _, _, _, _, _, _, _, _, _, h1, h2, h3⟩
theorem RoadRel.ar {r : RD} {N : Nat → Int32} {o : Nat} (h : RoadRel r N o) : ∃ a : AR, aOk a ∧ aX a r ∧ aM a N o := by
  obtain ⟨h, lo, np, nb, nc, nl, P, B, C, L, h1, h2, h3⟩ := h
  exact ⟨(h, lo, np, nb, nc, nl, P, B, C, L), h1, h2, h3⟩
theorem okP_snoc {np : Nat} {P : Nat → Nat → Int} {m k b w : Int} (h : okP np P) (g : gP np P m k b w) (q : np < 12) : okP (np + 1) (snoc np P (r6 m k b w 3 3)) := by
  obtain ⟨g1, g2, g3, g4, g5⟩ := g
  refine ⟨by omega, fun p hp => ?_, fun p r hp hr => ?_⟩
  · by_cases e : p = np
    · rw [e]
      simp only [snoc_s]
      exact ⟨g1, g3, g4, g5, (show (0 : Int) ≤ 3 by decide), (show (0 : Int) ≤ 3 by decide), (show (3 : Int) + 3 ≤ 10 by decide)⟩
    · simp only [snoc_n _ _ _ e]
      exact h.2.1 p (by omega)
  · by_cases e : r = np
    · rw [e]
      by_cases e2 : p = np
      · rw [e2]; exact Int.le_refl _
      · rw [snoc_s, snoc_n _ _ _ e2]
        have h5 := h.2.2 p (np - 1) (by omega) (by omega)
        show P p 0 ≤ m
        omega
    · rw [snoc_n _ _ _ e, snoc_n _ _ _ (show p ≠ np by omega)]
      exact h.2.2 p r hp (by omega)
theorem okB_snoc {nb : Nat} {B : Nat → Nat → Int} {m j : Int} (h : okB nb B) (g : gB m j) (q : nb < 4) : okB (nb + 1) (snoc nb B (r6 m j 0 0 0 0)) := by
  refine ⟨by omega, fun p hp => ?_⟩
  by_cases e : p = nb
  · rw [e]
    simp only [snoc_s]
    exact g
  · simp only [snoc_n _ _ _ e]
    exact h.2 p (by omega)
theorem okC_snoc {nc : Nat} {C : Nat → Nat → Int} {m a b : Int} (h : okC nc C) (g : gC nc C m a b) (q : nc < 5) : okC (nc + 1) (snoc nc C (r6 m a b 0 0 0)) := by
  obtain ⟨g1, g2, g3, g4, g5⟩ := g
  refine ⟨by omega, fun p hp => ?_, fun p r hp hr => ?_⟩
  · by_cases e : p = nc
    · rw [e]
      simp only [snoc_s]
      exact ⟨g1, g3.1, g5, g4.2⟩
    · simp only [snoc_n _ _ _ e]
      exact h.2.1 p (by omega)
  · by_cases e : r = nc
    · rw [e, snoc_s, snoc_n _ _ _ (show p ≠ nc by omega)]
      show C p 0 < m
      by_cases e2 : p = nc - 1
      · rw [e2]; omega
      · have h5 := h.2.2 p (nc - 1) (by omega) (by omega)
        omega
    · rw [snoc_n _ _ _ e, snoc_n _ _ _ (show p ≠ nc by omega)]
      exact h.2.2 p r hp (by omega)
theorem okL_snoc {nl : Nat} {L : Nat → Nat → Int} {m j : Int} (h : okL nl L) (g : gL nl L m j) (q : nl < 6) : okL (nl + 1) (snoc nl L (r6 m j 0 0 0 0)) := by
  obtain ⟨g1, g2, g3⟩ := g
  refine ⟨by omega, fun p hp => ?_, fun p r hp hr => ?_⟩
  · by_cases e : p = nl
    · rw [e]
      simp only [snoc_s]
      exact ⟨g1, g3⟩
    · simp only [snoc_n _ _ _ e]
      exact h.2.1 p (by omega)
  · by_cases e : r = nl
    · rw [e]
      by_cases e2 : p = nl
      · rw [e2]; exact Int.le_refl _
      · rw [snoc_s, snoc_n _ _ _ e2]
        have h5 := h.2.2 p (nl - 1) (by omega) (by omega)
        show L p 0 ≤ m
        omega
    · rw [snoc_n _ _ _ e, snoc_n _ _ _ (show p ≠ nl by omega)]
      exact h.2.2 p r hp (by omega)
def tW (x : Int) : AR → Int × AR := fun (h, lo, np, nb, nc, nl, P, B, C, L) => if 0 ≤ x ∧ x ≤ 30 then (h, (x, lo, np, nb, nc, nl, P, B, C, L)) else (-2, (h, lo, np, nb, nc, nl, P, B, C, L))
def tO (x : Int) : AR → Int × AR := fun (h, lo, np, nb, nc, nl, P, B, C, L) => if 0 ≤ x ∧ x ≤ 30 then (lo, (h, x, np, nb, nc, nl, P, B, C, L)) else (-2, (h, lo, np, nb, nc, nl, P, B, C, L))
def tP (m k b w : Int) : AR → Int × AR := fun (h, lo, np, nb, nc, nl, P, B, C, L) => if gP np P m k b w then (if np = 12 then (-4, (h, lo, np, nb, nc, nl, P, B, C, L)) else ((np : Int), (h, lo, np + 1, nb, nc, nl, snoc np P (r6 m k b w 3 3), B, C, L))) else (-2, (h, lo, np, nb, nc, nl, P, B, C, L))
def tB (m j : Int) : AR → Int × AR := fun (h, lo, np, nb, nc, nl, P, B, C, L) => if gB m j then (if nb = 4 then (-4, (h, lo, np, nb, nc, nl, P, B, C, L)) else ((nb : Int), (h, lo, np, nb + 1, nc, nl, P, snoc nb B (r6 m j 0 0 0 0), C, L))) else (-2, (h, lo, np, nb, nc, nl, P, B, C, L))
def tC (m x y : Int) : AR → Int × AR := fun (h, lo, np, nb, nc, nl, P, B, C, L) => if gC nc C m x y then (if nc = 5 then (-4, (h, lo, np, nb, nc, nl, P, B, C, L)) else ((nc : Int), (h, lo, np, nb, nc + 1, nl, P, B, snoc nc C (r6 m x y 0 0 0), L))) else (-2, (h, lo, np, nb, nc, nl, P, B, C, L))
def tL (m j : Int) : AR → Int × AR := fun (h, lo, np, nb, nc, nl, P, B, C, L) => if gL nl L m j then (if nl = 6 then (-4, (h, lo, np, nb, nc, nl, P, B, C, L)) else ((nl : Int), (h, lo, np, nb, nc, nl + 1, P, B, C, snoc nl L (r6 m j 0 0 0 0)))) else (-2, (h, lo, np, nb, nc, nl, P, B, C, L))
def cOk (z : Int) : Prop := z = -2 ∨ z = -4 ∨ (0 ≤ z ∧ z ≤ 30)
theorem tW_ok {a : AR} (x : Int) (h : aOk a) : aOk (tW x a).2 ∧ cOk (tW x a).1 := by
  obtain ⟨hh, lo, np, nb, nc, nl, P, B, C, L⟩ := a
  unfold tW cOk; dsimp only
  by_cases g : 0 ≤ x ∧ x ≤ 30
  · rw [if_pos g]; exact ⟨⟨g, h.2⟩, Or.inr (Or.inr h.1)⟩
  · rw [if_neg g]; exact ⟨h, Or.inl rfl⟩
theorem tO_ok {a : AR} (x : Int) (h : aOk a) : aOk (tO x a).2 ∧ cOk (tO x a).1 := by
  obtain ⟨hh, lo, np, nb, nc, nl, P, B, C, L⟩ := a
  unfold tO cOk; dsimp only
  by_cases g : 0 ≤ x ∧ x ≤ 30
  · rw [if_pos g]; exact ⟨⟨h.1, g, h.2.2⟩, Or.inr (Or.inr h.2.1)⟩
  · rw [if_neg g]; exact ⟨h, Or.inl rfl⟩
theorem tP_ok {a : AR} (m k b w : Int) (h : aOk a) : aOk (tP m k b w a).2 ∧ cOk (tP m k b w a).1 := by
  obtain ⟨hh, lo, np, nb, nc, nl, P, B, C, L⟩ := a
  unfold tP cOk; dsimp only
  have h1 := h.2.2.1.1
  dsimp only at h1
  by_cases g : gP np P m k b w
  · rw [if_pos g]
    by_cases q : np = 12
    · rw [if_pos q]; exact ⟨h, Or.inr (Or.inl rfl)⟩
    · rw [if_neg q]; exact ⟨⟨h.1, h.2.1, okP_snoc h.2.2.1 g (by omega), h.2.2.2⟩, Or.inr (Or.inr (by dsimp only; omega))⟩
  · rw [if_neg g]; exact ⟨h, Or.inl rfl⟩
theorem tB_ok {a : AR} (m j : Int) (h : aOk a) : aOk (tB m j a).2 ∧ cOk (tB m j a).1 := by
  obtain ⟨hh, lo, np, nb, nc, nl, P, B, C, L⟩ := a
  unfold tB cOk; dsimp only
  have h1 := h.2.2.2.1.1
  dsimp only at h1
  by_cases g : gB m j
  · rw [if_pos g]
    by_cases q : nb = 4
    · rw [if_pos q]; exact ⟨h, Or.inr (Or.inl rfl)⟩
    · rw [if_neg q]; exact ⟨⟨h.1, h.2.1, h.2.2.1, okB_snoc h.2.2.2.1 g (by omega), h.2.2.2.2⟩, Or.inr (Or.inr (by dsimp only; omega))⟩
  · rw [if_neg g]; exact ⟨h, Or.inl rfl⟩
theorem tC_ok {a : AR} (m x y : Int) (h : aOk a) : aOk (tC m x y a).2 ∧ cOk (tC m x y a).1 := by
  obtain ⟨hh, lo, np, nb, nc, nl, P, B, C, L⟩ := a
  unfold tC cOk; dsimp only
  have h1 := h.2.2.2.2.1.1
  dsimp only at h1
  by_cases g : gC nc C m x y
  · rw [if_pos g]
    by_cases q : nc = 5
    · rw [if_pos q]; exact ⟨h, Or.inr (Or.inl rfl)⟩
    · rw [if_neg q]; exact ⟨⟨h.1, h.2.1, h.2.2.1, h.2.2.2.1, okC_snoc h.2.2.2.2.1 g (by omega), h.2.2.2.2.2⟩, Or.inr (Or.inr (by dsimp only; omega))⟩
  · rw [if_neg g]; exact ⟨h, Or.inl rfl⟩
theorem tL_ok {a : AR} (m j : Int) (h : aOk a) : aOk (tL m j a).2 ∧ cOk (tL m j a).1 := by
  obtain ⟨hh, lo, np, nb, nc, nl, P, B, C, L⟩ := a
  unfold tL cOk; dsimp only
  have h1 := h.2.2.2.2.2.1
  dsimp only at h1
  by_cases g : gL nl L m j
  · rw [if_pos g]
    by_cases q : nl = 6
    · rw [if_pos q]; exact ⟨h, Or.inr (Or.inl rfl)⟩
    · rw [if_neg q]; exact ⟨⟨h.1, h.2.1, h.2.2.1, h.2.2.2.1, h.2.2.2.2.1, okL_snoc h.2.2.2.2.2 g (by omega)⟩, Or.inr (Or.inr (by dsimp only; omega))⟩
  · rw [if_neg g]; exact ⟨h, Or.inl rfl⟩
section TELL
variable {a : AR} {hi lw ps : Int32} {pc : Nat → Int32} {bs : Int32} {bc : Nat → Int32} {cs : Int32} {cc : Nat → Int32} {ls : Int32} {lc : Nat → Int32} {N : Nat → Int32}
theorem x_tW (hok : aOk a) (hx : aX a (hi, lw, ps, pc, bs, bc, cs, cc, ls, lc)) {x : Int} (rx : (-2147483648 ≤ x ∧ x < 2147483648)) {K : Int32 → Int32 → Prop} (hk : ∀ hi', aX (tW x a).2 (hi', lw, ps, pc, bs, bc, cs, cc, ls, lc) → K (zI (tW x a).1) hi') : pX5_setHigh hi (zI x) K := by
  obtain ⟨h, lo, np, nb, nc, nl, P, B, C, L⟩ := a
  obtain ⟨e1, e⟩ := id hx
  dsimp only at e1
  unfold tW at hk; dsimp only at hk
  unfold pX5_setHigh
  refine x_hi rx (fun g => br1 ?_) (fun g => br0 ?_)
  · rw [if_pos g] at hk; rw [e1]; exact hk _ ⟨rfl, e⟩
  · rw [if_neg g] at hk; exact hk _ hx
theorem m_tW (hok : aOk a) (hm : aM a N 0) {x : Int} (rx : (-2147483648 ≤ x ∧ x < 2147483648)) {K : Int32 → (Nat → Int32) → Prop} (hk : ∀ N', aM (tW x a).2 N' 0 → (∀ i, 113 ≤ i → N' i = N i) → K (zI (tW x a).1) N') : pX12_setWall N (zI x) K := by
  obtain ⟨h, lo, np, nb, nc, nl, P, B, C, L⟩ := a
  obtain ⟨m1, m2, m3, m4, m5, m6, m7, m8, m9, m10⟩ := id hm
  dsimp only at m1 m2 m3 m4 m5 m6 m7 m8 m9 m10
  unfold tW at hk; dsimp only at hk
  unfold pX12_setWall
  rw [c0]
  refine m_wi (b := 0) (c := 30) rfl rfl rx (by omega) (by omega) (fun g => br1 ?_) (fun g => br0 ?_)
  · rw [if_pos g] at hk; rw [m1]
    exact hk _ ⟨upd_s _ _ _, (upd_n _ _ (by omega)).trans m2, (upd_n _ _ (by omega)).trans m3, (upd_n _ _ (by omega)).trans m4, (upd_n _ _ (by omega)).trans m5, (upd_n _ _ (by omega)).trans m6, m7.congr (fun i a b => upd_n _ _ (by omega)), m8.congr (fun i a b => upd_n _ _ (by omega)), m9.congr (fun i a b => upd_n _ _ (by omega)), m10.congr (fun i a b => upd_n _ _ (by omega))⟩ (fun i a => upd_n _ _ (by omega))
  · rw [if_neg g] at hk; exact hk _ hm (fun i _ => rfl)
theorem x_tO (hok : aOk a) (hx : aX a (hi, lw, ps, pc, bs, bc, cs, cc, ls, lc)) {x : Int} (rx : (-2147483648 ≤ x ∧ x < 2147483648)) {K : Int32 → Int32 → Prop} (hk : ∀ lw', aX (tO x a).2 (hi, lw', ps, pc, bs, bc, cs, cc, ls, lc) → K (zI (tO x a).1) lw') : pX5_setLow lw (zI x) K := by
  obtain ⟨h, lo, np, nb, nc, nl, P, B, C, L⟩ := a
  obtain ⟨e0, e1, e⟩ := id hx
  dsimp only at e1
  unfold tO at hk; dsimp only at hk
  unfold pX5_setLow
  refine x_hi rx (fun g => br1 ?_) (fun g => br0 ?_)
  · rw [if_pos g] at hk; rw [e1]; exact hk _ ⟨e0, rfl, e⟩
  · rw [if_neg g] at hk; exact hk _ hx
theorem m_tO (hok : aOk a) (hm : aM a N 0) {x : Int} (rx : (-2147483648 ≤ x ∧ x < 2147483648)) {K : Int32 → (Nat → Int32) → Prop} (hk : ∀ N', aM (tO x a).2 N' 0 → (∀ i, 113 ≤ i → N' i = N i) → K (zI (tO x a).1) N') : pX12_setCoach N (zI x) K := by
  obtain ⟨h, lo, np, nb, nc, nl, P, B, C, L⟩ := a
  obtain ⟨m1, m2, m3, m4, m5, m6, m7, m8, m9, m10⟩ := id hm
  dsimp only at m1 m2 m3 m4 m5 m6 m7 m8 m9 m10
  unfold tO at hk; dsimp only at hk
  unfold pX12_setCoach
  rw [c1]
  refine m_wi (b := 0) (c := 30) rfl rfl rx (by omega) (by omega) (fun g => br1 ?_) (fun g => br0 ?_)
  · rw [if_pos g] at hk; rw [show N 1 = zI lo from m2]
    exact hk _ ⟨(upd_n _ _ (by omega)).trans m1, upd_s _ _ _, (upd_n _ _ (by omega)).trans m3, (upd_n _ _ (by omega)).trans m4, (upd_n _ _ (by omega)).trans m5, (upd_n _ _ (by omega)).trans m6, m7.congr (fun i a b => upd_n _ _ (by omega)), m8.congr (fun i a b => upd_n _ _ (by omega)), m9.congr (fun i a b => upd_n _ _ (by omega)), m10.congr (fun i a b => upd_n _ _ (by omega))⟩ (fun i a => upd_n _ _ (by omega))
  · rw [if_neg g] at hk; exact hk _ hm (fun i _ => rfl)
theorem x_tP (hok : aOk a) (hx : aX a (hi, lw, ps, pc, bs, bc, cs, cc, ls, lc)) {m k b w : Int} (rm : (-2147483648 ≤ m ∧ m < 2147483648)) (rk : (-2147483648 ≤ k ∧ k < 2147483648)) (rb : (-2147483648 ≤ b ∧ b < 2147483648)) (rw_ : (-2147483648 ≤ w ∧ w < 2147483648)) {K : Int32 → Int32 → (Nat → Int32) → Prop} (hk : ∀ s' c', aX (tP m k b w a).2 (hi, lw, s', c', bs, bc, cs, cc, ls, lc) → K (zI (tP m k b w a).1) s' c') : pX5_addPasser ps pc (zI m) (zI k) (zI b) (zI w) K := by
  obtain ⟨h, lo, np, nb, nc, nl, P, B, C, L⟩ := a
  obtain ⟨e1, e2, e3, e4, e⟩ := id hx
  dsimp only at e1 e2 e3 e4
  unfold tP at hk; dsimp only at hk
  rw [e3]
  refine x_addP e4 hok.2.2.1 rm rk rb rw_ (fun g => ?_) (fun g q => ?_) (fun g q c' hc => ?_)
  · rw [if_neg g] at hk; exact hk _ _ ⟨e1, e2, rfl, e4, e⟩
  · rw [if_pos g, if_pos q] at hk; exact hk _ _ ⟨e1, e2, rfl, e4, e⟩
  · rw [if_pos g, if_neg (by omega)] at hk; exact hk _ _ ⟨e1, e2, rfl, hc, e⟩
theorem m_tP (hok : aOk a) (hm : aM a N 0) {m k b w : Int} (rm : (-2147483648 ≤ m ∧ m < 2147483648)) (rk : (-2147483648 ≤ k ∧ k < 2147483648)) (rb : (-2147483648 ≤ b ∧ b < 2147483648)) (rw_ : (-2147483648 ≤ w ∧ w < 2147483648)) {K : Int32 → (Nat → Int32) → Prop} (hk : ∀ N', aM (tP m k b w a).2 N' 0 → (∀ i, 113 ≤ i → N' i = N i) → K (zI (tP m k b w a).1) N') : pX12_addPasser N (zI m) (zI k) (zI b) (zI w) K := by
  obtain ⟨h, lo, np, nb, nc, nl, P, B, C, L⟩ := a
  obtain ⟨m1, m2, m3, m4, m5, m6, m7, m8, m9, m10⟩ := id hm
  dsimp only at m1 m2 m3 m4 m5 m6 m7 m8 m9 m10
  have n2 : nb ≤ 4 := hok.2.2.2.1.1
  have n3 : nc ≤ 5 := hok.2.2.2.2.1.1
  have n4 : nl ≤ 6 := hok.2.2.2.2.2.1
  unfold tP at hk; dsimp only at hk
  refine m_addP m3 m7 hok.2.2.1 rm rk rb rw_ (fun g => ?_) (fun g q => ?_) (fun g q N' e2 hr hu => ?_)
  · rw [if_neg g] at hk; exact hk _ hm (fun i _ => rfl)
  · rw [if_pos g, if_pos q] at hk; exact hk _ hm (fun i _ => rfl)
  · rw [if_pos g, if_neg (by omega)] at hk
    exact hk _ ⟨(hu _ (by omega) (by omega)).trans m1, (hu _ (by omega) (by omega)).trans m2, e2, (hu _ (by omega) (by omega)).trans m4, (hu _ (by omega) (by omega)).trans m5, (hu _ (by omega) (by omega)).trans m6, hr, m8.congr (fun i a b => hu i (by omega) (by omega)), m9.congr (fun i a b => hu i (by omega) (by omega)), m10.congr (fun i a b => hu i (by omega) (by omega))⟩ (fun i a => hu i (by omega) (by omega))
theorem x_tB (hok : aOk a) (hx : aX a (hi, lw, ps, pc, bs, bc, cs, cc, ls, lc)) {m j : Int} (rm : (-2147483648 ≤ m ∧ m < 2147483648)) (rj : (-2147483648 ≤ j ∧ j < 2147483648)) {K : Int32 → Int32 → (Nat → Int32) → Prop} (hk : ∀ s' c', aX (tB m j a).2 (hi, lw, ps, pc, s', c', cs, cc, ls, lc) → K (zI (tB m j a).1) s' c') : pX5_addBeast bs bc (zI m) (zI j) K := by
  obtain ⟨h, lo, np, nb, nc, nl, P, B, C, L⟩ := a
  obtain ⟨e1, e2, e3, e4, e5, e6, e⟩ := id hx
  dsimp only at e1 e2 e3 e4 e5 e6
  unfold tB at hk; dsimp only at hk
  rw [e5]
  refine x_addB e6 hok.2.2.2.1 rm rj (fun g => ?_) (fun g q => ?_) (fun g q c' hc => ?_)
  · rw [if_neg g] at hk; exact hk _ _ ⟨e1, e2, e3, e4, rfl, e6, e⟩
  · rw [if_pos g, if_pos q] at hk; exact hk _ _ ⟨e1, e2, e3, e4, rfl, e6, e⟩
  · rw [if_pos g, if_neg (by omega)] at hk; exact hk _ _ ⟨e1, e2, e3, e4, rfl, hc, e⟩
theorem m_tB (hok : aOk a) (hm : aM a N 0) {m j : Int} (rm : (-2147483648 ≤ m ∧ m < 2147483648)) (rj : (-2147483648 ≤ j ∧ j < 2147483648)) {K : Int32 → (Nat → Int32) → Prop} (hk : ∀ N', aM (tB m j a).2 N' 0 → (∀ i, 113 ≤ i → N' i = N i) → K (zI (tB m j a).1) N') : pX12_addBeast N (zI m) (zI j) K := by
  obtain ⟨h, lo, np, nb, nc, nl, P, B, C, L⟩ := a
  obtain ⟨m1, m2, m3, m4, m5, m6, m7, m8, m9, m10⟩ := id hm
  dsimp only at m1 m2 m3 m4 m5 m6 m7 m8 m9 m10
  have n1 : np ≤ 12 := hok.2.2.1.1
  have n3 : nc ≤ 5 := hok.2.2.2.2.1.1
  have n4 : nl ≤ 6 := hok.2.2.2.2.2.1
  unfold tB at hk; dsimp only at hk
  refine m_addB m4 m8 hok.2.2.2.1 rm rj (fun g => ?_) (fun g q => ?_) (fun g q N' e2 hr hu => ?_)
  · rw [if_neg g] at hk; exact hk _ hm (fun i _ => rfl)
  · rw [if_pos g, if_pos q] at hk; exact hk _ hm (fun i _ => rfl)
  · rw [if_pos g, if_neg (by omega)] at hk
    exact hk _ ⟨(hu _ (by omega) (by omega)).trans m1, (hu _ (by omega) (by omega)).trans m2, (hu _ (by omega) (by omega)).trans m3, e2, (hu _ (by omega) (by omega)).trans m5, (hu _ (by omega) (by omega)).trans m6, m7.congr (fun i a b => hu i (by omega) (by omega)), hr, m9.congr (fun i a b => hu i (by omega) (by omega)), m10.congr (fun i a b => hu i (by omega) (by omega))⟩ (fun i a => hu i (by omega) (by omega))
theorem x_tC (hok : aOk a) (hx : aX a (hi, lw, ps, pc, bs, bc, cs, cc, ls, lc)) {m x y : Int} (rm : (-2147483648 ≤ m ∧ m < 2147483648)) (rx : (-2147483648 ≤ x ∧ x < 2147483648)) (ry : (-2147483648 ≤ y ∧ y < 2147483648)) {K : Int32 → Int32 → (Nat → Int32) → Prop} (hk : ∀ s' c', aX (tC m x y a).2 (hi, lw, ps, pc, bs, bc, s', c', ls, lc) → K (zI (tC m x y a).1) s' c') : pX5_addCheck cs cc (zI m) (zI x) (zI y) K := by
  obtain ⟨h, lo, np, nb, nc, nl, P, B, C, L⟩ := a
  obtain ⟨e1, e2, e3, e4, e5, e6, e7, e8, e⟩ := id hx
  dsimp only at e1 e2 e3 e4 e5 e6 e7 e8
  unfold tC at hk; dsimp only at hk
  rw [e7]
  refine x_addC e8 hok.2.2.2.2.1 rm rx ry (fun g => ?_) (fun g q => ?_) (fun g q c' hc => ?_)
  · rw [if_neg g] at hk; exact hk _ _ ⟨e1, e2, e3, e4, e5, e6, rfl, e8, e⟩
  · rw [if_pos g, if_pos q] at hk; exact hk _ _ ⟨e1, e2, e3, e4, e5, e6, rfl, e8, e⟩
  · rw [if_pos g, if_neg (by omega)] at hk; exact hk _ _ ⟨e1, e2, e3, e4, e5, e6, rfl, hc, e⟩
theorem m_tC (hok : aOk a) (hm : aM a N 0) {m x y : Int} (rm : (-2147483648 ≤ m ∧ m < 2147483648)) (rx : (-2147483648 ≤ x ∧ x < 2147483648)) (ry : (-2147483648 ≤ y ∧ y < 2147483648)) {K : Int32 → (Nat → Int32) → Prop} (hk : ∀ N', aM (tC m x y a).2 N' 0 → (∀ i, 113 ≤ i → N' i = N i) → K (zI (tC m x y a).1) N') : pX12_addCheck N (zI m) (zI x) (zI y) K := by
  obtain ⟨h, lo, np, nb, nc, nl, P, B, C, L⟩ := a
  obtain ⟨m1, m2, m3, m4, m5, m6, m7, m8, m9, m10⟩ := id hm
  dsimp only at m1 m2 m3 m4 m5 m6 m7 m8 m9 m10
  have n1 : np ≤ 12 := hok.2.2.1.1
  have n2 : nb ≤ 4 := hok.2.2.2.1.1
  have n4 : nl ≤ 6 := hok.2.2.2.2.2.1
  unfold tC at hk; dsimp only at hk
  refine m_addC m5 m9 hok.2.2.2.2.1 rm rx ry (fun g => ?_) (fun g q => ?_) (fun g q N' e2 hr hu => ?_)
  · rw [if_neg g] at hk; exact hk _ hm (fun i _ => rfl)
  · rw [if_pos g, if_pos q] at hk; exact hk _ hm (fun i _ => rfl)
  · rw [if_pos g, if_neg (by omega)] at hk
    exact hk _ ⟨(hu _ (by omega) (by omega)).trans m1, (hu _ (by omega) (by omega)).trans m2, (hu _ (by omega) (by omega)).trans m3, (hu _ (by omega) (by omega)).trans m4, e2, (hu _ (by omega) (by omega)).trans m6, m7.congr (fun i a b => hu i (by omega) (by omega)), m8.congr (fun i a b => hu i (by omega) (by omega)), hr, m10.congr (fun i a b => hu i (by omega) (by omega))⟩ (fun i a => hu i (by omega) (by omega))
theorem x_tL (hok : aOk a) (hx : aX a (hi, lw, ps, pc, bs, bc, cs, cc, ls, lc)) {m j : Int} (rm : (-2147483648 ≤ m ∧ m < 2147483648)) (rj : (-2147483648 ≤ j ∧ j < 2147483648)) {K : Int32 → Int32 → (Nat → Int32) → Prop} (hk : ∀ s' c', aX (tL m j a).2 (hi, lw, ps, pc, bs, bc, cs, cc, s', c') → K (zI (tL m j a).1) s' c') : pX5_addLook ls lc (zI m) (zI j) K := by
  obtain ⟨h, lo, np, nb, nc, nl, P, B, C, L⟩ := a
  obtain ⟨e1, e2, e3, e4, e5, e6, e7, e8, e9, e10⟩ := id hx
  dsimp only at e1 e2 e3 e4 e5 e6 e7 e8 e9 e10
  unfold tL at hk; dsimp only at hk
  rw [e9]
  refine x_addL e10 hok.2.2.2.2.2 rm rj (fun g => ?_) (fun g q => ?_) (fun g q c' hc => ?_)
  · rw [if_neg g] at hk; exact hk _ _ ⟨e1, e2, e3, e4, e5, e6, e7, e8, rfl, e10⟩
  · rw [if_pos g, if_pos q] at hk; exact hk _ _ ⟨e1, e2, e3, e4, e5, e6, e7, e8, rfl, e10⟩
  · rw [if_pos g, if_neg (by omega)] at hk; exact hk _ _ ⟨e1, e2, e3, e4, e5, e6, e7, e8, rfl, hc⟩
theorem m_tL (hok : aOk a) (hm : aM a N 0) {m j : Int} (rm : (-2147483648 ≤ m ∧ m < 2147483648)) (rj : (-2147483648 ≤ j ∧ j < 2147483648)) {K : Int32 → (Nat → Int32) → Prop} (hk : ∀ N', aM (tL m j a).2 N' 0 → (∀ i, 113 ≤ i → N' i = N i) → K (zI (tL m j a).1) N') : pX12_addLook N (zI m) (zI j) K := by
  obtain ⟨h, lo, np, nb, nc, nl, P, B, C, L⟩ := a
  obtain ⟨m1, m2, m3, m4, m5, m6, m7, m8, m9, m10⟩ := id hm
  dsimp only at m1 m2 m3 m4 m5 m6 m7 m8 m9 m10
  have n1 : np ≤ 12 := hok.2.2.1.1
  have n2 : nb ≤ 4 := hok.2.2.2.1.1
  have n3 : nc ≤ 5 := hok.2.2.2.2.1.1
  unfold tL at hk; dsimp only at hk
  refine m_addL m6 m10 hok.2.2.2.2.2 rm rj (fun g => ?_) (fun g q => ?_) (fun g q N' e2 hr hu => ?_)
  · rw [if_neg g] at hk; exact hk _ hm (fun i _ => rfl)
  · rw [if_pos g, if_pos q] at hk; exact hk _ hm (fun i _ => rfl)
  · rw [if_pos g, if_neg (by omega)] at hk
    exact hk _ ⟨(hu _ (by omega) (by omega)).trans m1, (hu _ (by omega) (by omega)).trans m2, (hu _ (by omega) (by omega)).trans m3, (hu _ (by omega) (by omega)).trans m4, (hu _ (by omega) (by omega)).trans m5, e2, m7.congr (fun i a b => hu i (by omega) (by omega)), m8.congr (fun i a b => hu i (by omega) (by omega)), m9.congr (fun i a b => hu i (by omega) (by omega)), hr⟩ (fun i a => hu i (by omega) (by omega))
end TELL
/-! what is counted -/
theorem x_ct {b n f : Int32} {r : Int} {k : Int32 → Int32 → Int32 → Int32 → Prop} (hr : cOk r) (hk : k (zI r) (if r = -2 then b + 1 else b) n (if r = -4 then f + 1 else f)) : pX11_counted b n f (zI r) k := by
  rcases hr with rfl | rfl | hr
  · exact (x_counted_bad b n f k).mpr hk
  · exact (x_counted_full b n f k).mpr hk
  · rw [if_neg (by omega), if_neg (by omega)] at hk
    rw [x_counted_ok _ _ _ _ _ (by ((try simp only [zI_lit, zI_neg, zI_add, zI_sub, zI_mul, zI_n, ne_eq]) <;> (first | rw [zI_lt (by omega) (by omega)] | rw [zI_le (by omega) (by omega)] | rw [zI_eq (by omega) (by omega)]); try omega)) (by ((try simp only [zI_lit, zI_neg, zI_add, zI_sub, zI_mul, zI_n, ne_eq]) <;> (first | rw [zI_lt (by omega) (by omega)] | rw [zI_le (by omega) (by omega)] | rw [zI_eq (by omega) (by omega)]); try omega)) (by ((try simp only [zI_lit, zI_neg, zI_add, zI_sub, zI_mul, zI_n, ne_eq]) <;> (first | rw [zI_lt (by omega) (by omega)] | rw [zI_le (by omega) (by omega)] | rw [zI_eq (by omega) (by omega)]); try omega))]; exact hk
theorem m_to {R : Nat → Int32} {r : Int} {k : Int32 → (Nat → Int32) → Prop} (hr : cOk r) (hk : ∀ R', R' 0 = (if r = -2 then R 0 + 1 else R 0) → R' 1 = R 1 → R' 2 = (if r = -4 then R 2 + 1 else R 2) → k (zI r) R') : pX12_told R (zI r) k := by
  rcases hr with rfl | rfl | hr
  · exact (m_told_bad R k).mpr (hk _ (upd_s _ _ _) (upd_n _ _ (by omega)) (upd_n _ _ (by omega)))
  · exact (m_told_full R k).mpr (hk _ (upd_n _ _ (by omega)) (upd_n _ _ (by omega)) (upd_s _ _ _))
  · have q1 : ¬ r = -2 := by omega
    have q2 : ¬ r = -4 := by omega
    rw [m_told_ok _ _ _ (by ((try simp only [zI_lit, zI_neg, zI_add, zI_sub, zI_mul, zI_n, ne_eq]) <;> (first | rw [zI_lt (by omega) (by omega)] | rw [zI_le (by omega) (by omega)] | rw [zI_eq (by omega) (by omega)]); try omega)) (by ((try simp only [zI_lit, zI_neg, zI_add, zI_sub, zI_mul, zI_n, ne_eq]) <;> (first | rw [zI_lt (by omega) (by omega)] | rw [zI_le (by omega) (by omega)] | rw [zI_eq (by omega) (by omega)]); try omega))]
    exact hk R (by rw [if_neg q1]) rfl (by rw [if_neg q2])
