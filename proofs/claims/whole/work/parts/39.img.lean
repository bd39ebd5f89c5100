/-! images, and the digest -/
theorem rowsIn.shift {w n o o' : Nat} {c c' : Nat → Int32} {F : Nat → Nat → Int} (h : rowsIn w n o c F) (e : ∀ i, i < w * n → c' (o' + i) = c (o + i)) : rowsIn w n o' c' F := fun p q hp hq => by
  have h1 : w * p + w ≤ w * n := by rw [← Nat.mul_succ]; exact Nat.mul_le_mul_left w hp
  rw [Nat.add_assoc, e _ (by omega), ← Nat.add_assoc]
  exact h p q hp hq
theorem x_bec17 {n : Nat} {c1 : Nat → Int32} {sz : Int32} {kx : Int32 → (Nat → Int32) → Prop} (hn : n ≤ 1000) : ∀ (j i : Nat) (cells : Nat → Int32), i + j = n → (∀ c', (∀ q, i ≤ q → q < n → c' q = c1 q) → (∀ q, q < i → c' q = cells q) → kx sz c') → pX7_become_17 n n c1 kx (j + 1) (zI i) sz cells
  | 0, i, cells, hi, hk => brT (by ((try simp only [zI_lit, zI_neg, zI_add, zI_sub, zI_mul, zI_n, ne_eq]) <;> (first | rw [zI_lt (by omega) (by omega)] | rw [zI_le (by omega) (by omega)] | rw [zI_eq (by omega) (by omega)]); try omega)) (hk cells (fun q a b => absurd b (by omega)) (fun q a => rfl))
  | j + 1, i, cells, hi, hk => by
    refine brF (by ((try simp only [zI_lit, zI_neg, zI_add, zI_sub, zI_mul, zI_n, ne_eq]) <;> (first | rw [zI_lt (by omega) (by omega)] | rw [zI_le (by omega) (by omega)] | rw [zI_eq (by omega) (by omega)]); try omega)) (brF (by ((try simp only [zI_lit, zI_neg, zI_add, zI_sub, zI_mul, zI_n, ne_eq]) <;> (first | rw [zI_lt (by omega) (by omega)] | rw [zI_le (by omega) (by omega)] | rw [zI_eq (by omega) (by omega)]); try omega)) ⟨by ((try simp only [zI_lit, zI_neg, zI_add, zI_sub, zI_mul, zI_n]); rw [zI_in (by omega)]; omega), by ((try simp only [zI_lit, zI_neg, zI_add, zI_sub, zI_mul, zI_n]); rw [zI_in (by omega)]; omega), ?_⟩)
    have e1 : zI (i : Int) + 1 = zI ((i + 1 : Nat) : Int) := by ((try simp only [zI_lit, zI_neg, zI_add, zI_sub, zI_mul, zI_n]) <;> (first | rfl | (refine zI_eqI ?_; omega)))
    have e2 : (zI (i : Int)).toNatClampNeg = i := by ((try simp only [zI_lit, zI_neg, zI_add, zI_sub, zI_mul, zI_n]); rw [zI_clamp (by omega)]; omega)
    rw [e1, e2]
    refine x_bec17 hn j (i + 1) _ (by omega) (fun c' h1 h2 => hk c' (fun q a b => ?_) (fun q a => ?_))
    · by_cases e : q = i
      · rw [h2 q (by omega), e, upd_s]
      · exact h1 q (by omega) b
    · rw [h2 q (by omega), upd_n _ _ (by omega)]
theorem x_bec {n mo sz w : Nat} {M s : Int32} {cells c1 : Nat → Int32} {F : Nat → Nat → Int} {k : Int32 → (Nat → Int32) → Prop} (eM : M = zI mo) (hn : n ≤ 1000) (hs : sz ≤ mo) (hmo : mo ≤ 100) (hw : w * sz ≤ n) (hr : rowsIn w sz 0 c1 F) (hk : ∀ c', rowsIn w sz 0 c' F → k (zI sz) c') : pX7_become n n M s cells (zI sz) c1 k := by
  unfold pX7_become
  have e : mmin (zI sz) M = zI sz := by
    rw [eM, zI_min (by omega) (by omega), if_neg (by omega)]
  rw [e, z0]
  exact ⟨n + 1, x_bec17 hn n 0 cells (by omega) (fun c' h1 _ => hk c' (hr.shift (fun i hi => by rw [h1 _ (by omega) (by omega)])))⟩
theorem x_rb {a : AR} {q0 q1 q2 : Int32} {q3 : Nat → Int32} {q4 : Int32} {q5 : Nat → Int32} {q6 : Int32} {q7 : Nat → Int32} {q8 : Int32} {q9 : Nat → Int32} {hi lw ps : Int32} {pc : Nat → Int32} {bs : Int32} {bc : Nat → Int32} {cs : Int32} {cc : Nat → Int32} {ls : Int32} {lc : Nat → Int32} (hok : aOk a) (hx : aX a (hi, lw, ps, pc, bs, bc, cs, cc, ls, lc))
    {K : Int32 → Int32 → Int32 → (Nat → Int32) → Int32 → (Nat → Int32) → Int32 → (Nat → Int32) → Int32 → (Nat → Int32) → Prop} (hk : ∀ w0 w1 w2 w3 w4 w5 w6 w7 w8 w9, aX a (w0, w1, w2, w3, w4, w5, w6, w7, w8, w9) → K w0 w1 w2 w3 w4 w5 w6 w7 w8 w9) : pX5_become q0 q1 q2 q3 q4 q5 q6 q7 q8 q9 hi lw ps pc bs bc cs cc ls lc K := by
  obtain ⟨h, lo, np, nb, nc, nl, P, B, C, L⟩ := a
  obtain ⟨e1, e2, e3, e4, e5, e6, e7, e8, e9, e10⟩ := hx
  dsimp only at e1 e2 e3 e4 e5 e6 e7 e8 e9 e10
  have n1 : np ≤ 12 := hok.2.2.1.1
  have n2 : nb ≤ 4 := hok.2.2.2.1.1
  have n3 : nc ≤ 5 := hok.2.2.2.2.1.1
  have n4 : nl ≤ 6 := hok.2.2.2.2.2.1
  unfold pX5_become
  rw [e3, e5, e7, e9]
  refine x_bec (mo := 12) rfl (by omega) n1 (by omega) (by omega) e4 (fun c1 h1 => ?_)
  refine x_bec (mo := 4) rfl (by omega) n2 (by omega) (by omega) e6 (fun c2 h2 => ?_)
  refine x_bec (mo := 5) rfl (by omega) n3 (by omega) (by omega) e8 (fun c3 h3 => ?_)
  refine x_bec (mo := 6) rfl (by omega) n4 (by omega) (by omega) e10 (fun c4 h4 => ?_)
  exact hk _ _ _ _ _ _ _ _ _ _ ⟨e1, e2, rfl, h1, rfl, h2, rfl, h3, rfl, h4⟩
theorem m_cp2 {f t : Nat} {kx : (Nat → Int32) → Prop} (hf : f ≤ 339) (ht : t ≤ 339) (ha : f + 113 ≤ t ∨ t + 113 ≤ f) : ∀ (j i : Nat) (N : Nat → Int32), i + j = 113 → (∀ N', (∀ q, i ≤ q → q < 113 → N' (t + q) = N (f + q)) → (∀ q, ¬ (t + i ≤ q ∧ q < t + 113) → N' q = N q) → kx N') → pX12_copy_2 kx (j + 1) (zI f) (zI t) (zI i) N
  | 0, i, N, hi, hk => brT (by ((try simp only [zI_lit, zI_neg, zI_add, zI_sub, zI_mul, zI_n, ne_eq]) <;> (first | rw [zI_lt (by omega) (by omega)] | rw [zI_le (by omega) (by omega)] | rw [zI_eq (by omega) (by omega)]); try omega)) (hk N (fun q a b => absurd b (by omega)) (fun q a => rfl))
  | j + 1, i, N, hi, hk => by
    refine brF (by ((try simp only [zI_lit, zI_neg, zI_add, zI_sub, zI_mul, zI_n, ne_eq]) <;> (first | rw [zI_lt (by omega) (by omega)] | rw [zI_le (by omega) (by omega)] | rw [zI_eq (by omega) (by omega)]); try omega)) ⟨by ((try simp only [zI_lit, zI_neg, zI_add, zI_sub, zI_mul, zI_n]); rw [zI_in (by omega)]; omega), by ((try simp only [zI_lit, zI_neg, zI_add, zI_sub, zI_mul, zI_n]); rw [zI_in (by omega)]; omega), ?_⟩
    have e1 : zI (i : Int) + 1 = zI ((i + 1 : Nat) : Int) := by ((try simp only [zI_lit, zI_neg, zI_add, zI_sub, zI_mul, zI_n]) <;> (first | rfl | (refine zI_eqI ?_; omega)))
    have e2 : (zI (t : Int) + zI (i : Int)).toNatClampNeg = t + i := by ((try simp only [zI_lit, zI_neg, zI_add, zI_sub, zI_mul, zI_n]); rw [zI_clamp (by omega)]; omega)
    have e3 : (zI (f : Int) + zI (i : Int)).toNatClampNeg = f + i := by ((try simp only [zI_lit, zI_neg, zI_add, zI_sub, zI_mul, zI_n]); rw [zI_clamp (by omega)]; omega)
    rw [e1, e2, e3]
    refine m_cp2 hf ht ha j (i + 1) _ (by omega) (fun N' h1 h2 => hk N' (fun q a b => ?_) (fun q a => ?_))
    · by_cases e : q = i
      · rw [h2 _ (by omega), e, upd_s]
      · rw [h1 q (by omega) b, upd_n _ _ (by omega)]
    · rw [h2 q (by omega), upd_n _ _ (by omega)]
theorem m_cp {f t : Nat} {Fi T : Int32} {N : Nat → Int32} {k : (Nat → Int32) → Prop} (ef : Fi = zI f) (et : T = zI t) (hf : f ≤ 339) (ht : t ≤ 339) (ha : f + 113 ≤ t ∨ t + 113 ≤ f) (hk : ∀ N', (∀ q, q < 113 → N' (t + q) = N (f + q)) → (∀ q, ¬ (t ≤ q ∧ q < t + 113) → N' q = N q) → k N') : pX12_copy N Fi T k := by
  unfold pX12_copy
  rw [ef, et, z0]
  exact ⟨114, m_cp2 hf ht ha 113 0 N (by omega) (fun N' h1 h2 => hk N' (fun q a => h1 q (by omega) a) (fun q a => h2 q (by omega)))⟩
theorem aM.shift {a : AR} {N N' : Nat → Int32} {f t : Nat} (hok : aOk a) (hm : aM a N f) (e : ∀ q, q < 113 → N' (t + q) = N (f + q)) : aM a N' t := by
  obtain ⟨h, lo, np, nb, nc, nl, P, B, C, L⟩ := a
  obtain ⟨m1, m2, m3, m4, m5, m6, m7, m8, m9, m10⟩ := hm
  dsimp only at m1 m2 m3 m4 m5 m6 m7 m8 m9 m10
  have n1 : np ≤ 12 := hok.2.2.1.1
  have n2 : nb ≤ 4 := hok.2.2.2.1.1
  have n3 : nc ≤ 5 := hok.2.2.2.2.1.1
  have n4 : nl ≤ 6 := hok.2.2.2.2.2.1
  exact ⟨(e 0 (by omega)).trans m1, (e 1 (by omega)).trans m2, (e 2 (by omega)).trans m3, (e 3 (by omega)).trans m4, (e 4 (by omega)).trans m5, (e 5 (by omega)).trans m6, m7.shift (fun i hi => by rw [Nat.add_assoc, e _ (by omega), ← Nat.add_assoc]), m8.shift (fun i hi => by rw [Nat.add_assoc, e _ (by omega), ← Nat.add_assoc]), m9.shift (fun i hi => by rw [Nat.add_assoc, e _ (by omega), ← Nat.add_assoc]), m10.shift (fun i hi => by rw [Nat.add_assoc, e _ (by omega), ← Nat.add_assoc])⟩
theorem x_img {a : Int} {A : Int32} {k : Int32 → Prop} (eA : A = zI a) (ra : (-2147483648 ≤ a ∧ a < 2147483648)) (h1 : 0 ≤ a ∧ a ≤ 1 → k 1) (h0 : ¬ (0 ≤ a ∧ a ≤ 1) → k 0) : pX11_isImage A k := by
  unfold pX11_isImage
  rw [eA]
  by_cases q : a < 0
  · exact brT (by ((try simp only [zI_lit, zI_neg, zI_add, zI_sub, zI_mul, zI_n, ne_eq]) <;> (first | rw [zI_lt (by omega) (by omega)] | rw [zI_le (by omega) (by omega)] | rw [zI_eq (by omega) (by omega)]); try omega)) (h0 (by omega))
  · refine brF (by ((try simp only [zI_lit, zI_neg, zI_add, zI_sub, zI_mul, zI_n, ne_eq]) <;> (first | rw [zI_lt (by omega) (by omega)] | rw [zI_le (by omega) (by omega)] | rw [zI_eq (by omega) (by omega)]); try omega)) ?_
    by_cases q2 : 2 ≤ a
    · exact brT (by ((try simp only [zI_lit, zI_neg, zI_add, zI_sub, zI_mul, zI_n, ne_eq]) <;> (first | rw [zI_lt (by omega) (by omega)] | rw [zI_le (by omega) (by omega)] | rw [zI_eq (by omega) (by omega)]); try omega)) (h0 (by omega))
    · exact brF (by ((try simp only [zI_lit, zI_neg, zI_add, zI_sub, zI_mul, zI_n, ne_eq]) <;> (first | rw [zI_lt (by omega) (by omega)] | rw [zI_le (by omega) (by omega)] | rw [zI_eq (by omega) (by omega)]); try omega)) (h1 (by omega))
theorem m_image {y : Nat} {Y : Int32} {N I R : Nat → Int32} {K : Int32 → (Nat → Int32) → (Nat → Int32) → (Nat → Int32) → Prop} (eY : Y = zI y) (hy : y ≤ 1) (hk : ∀ N', (∀ q, q < 113 → N' (113 + 113 * y + q) = N (0 + q)) → (∀ q, ¬ (113 + 113 * y ≤ q ∧ q < 113 + 113 * y + 113) → N' q = N q) → K 1 N' (upd I y 1) R) : pX12_image N I R Y K := by
  unfold pX12_image
  rw [eY]
  refine m_wi (b := 0) (c := 1) rfl rfl (by omega) (by omega) (by omega) (fun _ => br1 ?_) (fun g => absurd g (by omega))
  refine m_cp (f := 0) (t := 113 + 113 * y) rfl (by ((try simp only [zI_lit, zI_neg, zI_add, zI_sub, zI_mul, zI_n]) <;> (first | rfl | (refine zI_eqI ?_; omega)))) (by omega) (by omega) (by omega) (fun N' h1 h2 => ⟨by ((try simp only [zI_lit, zI_neg, zI_add, zI_sub, zI_mul, zI_n]); rw [zI_in (by omega)]; omega), ?_⟩)
  have e2 : (zI (y : Int)).toNatClampNeg = y := by ((try simp only [zI_lit, zI_neg, zI_add, zI_sub, zI_mul, zI_n]); rw [zI_clamp (by omega)]; omega)
  rw [e2, show vp_nar .boolean 1 = 1 from by decide]
  exact hk N' h1 h2
theorem m_imageB {y : Int} {N I R : Nat → Int32} {K : Int32 → (Nat → Int32) → (Nat → Int32) → (Nat → Int32) → Prop} (ry : (-2147483648 ≤ y ∧ y < 2147483648)) (hy : ¬ (0 ≤ y ∧ y ≤ 1)) (hk : K (-2) N I (upd R 0 (R 0 + 1))) : pX12_image N I R (zI y) K := by
  unfold pX12_image
  exact m_wi (b := 0) (c := 1) rfl rfl ry (by omega) (by omega) (fun g => absurd g hy) (fun _ => br0 ((m_bad R _).mpr hk))
theorem m_from0 {y : Nat} {Y : Int32} {N I R : Nat → Int32} {K : Int32 → (Nat → Int32) → (Nat → Int32) → Prop} (eY : Y = zI y) (hy : y ≤ 1) (hI : I y = 0) (hk : K (-3) N (upd R 1 (R 1 + 1))) : pX12_from N I R Y K := by
  unfold pX12_from
  rw [eY]
  have e2 : (zI (y : Int)).toNatClampNeg = y := by ((try simp only [zI_lit, zI_neg, zI_add, zI_sub, zI_mul, zI_n]); rw [zI_clamp (by omega)]; omega)
  rw [e2, hI]
  exact m_wi (b := 0) (c := 1) rfl rfl (by omega) (by omega) (by omega) (fun _ => br1 ⟨by ((try simp only [zI_lit, zI_neg, zI_add, zI_sub, zI_mul, zI_n]); rw [zI_in (by omega)]; omega), brT rfl ((m_no R _).mpr hk)⟩) (fun g => absurd g (by omega))
theorem m_from1 {y : Nat} {Y : Int32} {N I R : Nat → Int32} {K : Int32 → (Nat → Int32) → (Nat → Int32) → Prop} (eY : Y = zI y) (hy : y ≤ 1) (hI : I y = 1) (hk : ∀ N', (∀ q, q < 113 → N' (0 + q) = N (113 + 113 * y + q)) → (∀ q, 113 ≤ q → N' q = N q) → K 1 N' R) : pX12_from N I R Y K := by
  unfold pX12_from
  rw [eY]
  have e2 : (zI (y : Int)).toNatClampNeg = y := by ((try simp only [zI_lit, zI_neg, zI_add, zI_sub, zI_mul, zI_n]); rw [zI_clamp (by omega)]; omega)
  rw [e2, hI]
  refine m_wi (b := 0) (c := 1) rfl rfl (by omega) (by omega) (by omega) (fun _ => br1 ⟨by ((try simp only [zI_lit, zI_neg, zI_add, zI_sub, zI_mul, zI_n]); rw [zI_in (by omega)]; omega), brF (by decide) ?_⟩) (fun g => absurd g (by omega))
  exact m_cp (f := 113 + 113 * y) (t := 0) (by ((try simp only [zI_lit, zI_neg, zI_add, zI_sub, zI_mul, zI_n]) <;> (first | rfl | (refine zI_eqI ?_; omega)))) rfl (by omega) (by omega) (by omega) (fun N' h1 h2 => hk N' h1 (fun q hq => h2 q (by omega)))
theorem m_fromB {y : Int} {N I R : Nat → Int32} {K : Int32 → (Nat → Int32) → (Nat → Int32) → Prop} (ry : (-2147483648 ≤ y ∧ y < 2147483648)) (hy : ¬ (0 ≤ y ∧ y ≤ 1)) (hk : K (-2) N (upd R 0 (R 0 + 1))) : pX12_from N I R (zI y) K := by
  unfold pX12_from
  exact m_wi (b := 0) (c := 1) rfl rfl ry (by omega) (by omega) (fun g => absurd g hy) (fun _ => br0 ((m_bad R _).mpr hk))
set_option maxHeartbeats 4000000 in
theorem st_27 : ∀ (s_above : Int64) (s_below : Int64) (s_badCalls : Int32) (s_noCalls : Int32) (s_fullCalls : Int32) (s_road_high : Int32) (s_road_low : Int32) (s_road_passers_size : Int32) (s_road_passers_cells : Nat → Int32) (s_road_beasts_size : Int32) (s_road_beasts_cells : Nat → Int32) (s_road_checks_size : Int32) (s_road_checks_cells : Nat → Int32) (s_road_looks_size : Int32) (s_road_looks_cells : Nat → Int32) (s_trial_high : Int32) (s_trial_low : Int32) (s_trial_passers_size : Int32) (s_trial_passers_cells : Nat → Int32) (s_trial_beasts_size : Int32) (s_trial_beasts_cells : Nat → Int32) (s_trial_checks_size : Int32) (s_trial_checks_cells : Nat → Int32) (s_trial_looks_size : Int32) (s_trial_looks_cells : Nat → Int32) (s_text_length : Int32) (s_text_place : Int32) (s_text_next : Int32) (s_text_bytes : Nat → Int32) (s_text_items_size : Int32) (s_text_items_cells : Nat → Int32) (s_hiring_men : Int32) (s_hiring_goal : Int32) (s_hiring_goalMen : Int32) (s_hiring_fewest : Nat → Int32) (s_hiring_gains : Nat → Int32) (s_spread_now : Nat → Int64) (s_spread_later : Nat → Int64) (s_choices : Nat → Int32) (s_ends : Nat → Int32) (s_laterEnds : Nat → Int32) (s1_above : Int64) (s1_below : Int64) (s1_typed : Int32) (s1_at : Int32) (s1_start : Int32) (s1_sort : Int32) (s1_value : Int32) (s1_fault : Int32) (s1_itemsMany : Int32) (s1_goneHeight : Int32) (s1_goneDid : Int32) (s1_now : Nat → Int32) (s1_isKept : Nat → Int32) (s1_refused : Nat → Int32) (s1_text : Nat → Int32) (s1_items : Nat → Int32) (s1_did : Nat → Int32) (s1_fewest : Nat → Int32) (s1_chosen : Nat → Int32) (s1_ends : Nat → Int32) (s1_rows : Nat → Int32) (s1_ways : Nat → Int64) (s1_then : Nat → Int64) (o0 : Option RD) (o1 : Option RD) (v1 v2 v3 v4 : Int32), RelS s_above s_below s_badCalls s_noCalls s_fullCalls s_road_high s_road_low s_road_passers_size s_road_passers_cells s_road_beasts_size s_road_beasts_cells s_road_checks_size s_road_checks_cells s_road_looks_size s_road_looks_cells s_trial_high s_trial_low s_trial_passers_size s_trial_passers_cells s_trial_beasts_size s_trial_beasts_cells s_trial_checks_size s_trial_checks_cells s_trial_looks_size s_trial_looks_cells s_text_length s_text_place s_text_next s_text_bytes s_text_items_size s_text_items_cells s_hiring_men s_hiring_goal s_hiring_goalMen s_hiring_fewest s_hiring_gains s_spread_now s_spread_later s_choices s_ends s_laterEnds s1_above s1_below s1_typed s1_at s1_start s1_sort s1_value s1_fault s1_itemsMany s1_goneHeight s1_goneDid s1_now s1_isKept s1_refused s1_text s1_items s1_did s1_fewest s1_chosen s1_ends s1_rows s1_ways s1_then o0 o1 → pL_27 RelS s_above s_below s_badCalls s_noCalls s_fullCalls s_road_high s_road_low s_road_passers_size s_road_passers_cells s_road_beasts_size s_road_beasts_cells s_road_checks_size s_road_checks_cells s_road_looks_size s_road_looks_cells s_trial_high s_trial_low s_trial_passers_size s_trial_passers_cells s_trial_beasts_size s_trial_beasts_cells s_trial_checks_size s_trial_checks_cells s_trial_looks_size s_trial_looks_cells s_text_length s_text_place s_text_next s_text_bytes s_text_items_size s_text_items_cells s_hiring_men s_hiring_goal s_hiring_goalMen s_hiring_fewest s_hiring_gains s_spread_now s_spread_later s_choices s_ends s_laterEnds s1_above s1_below s1_typed s1_at s1_start s1_sort s1_value s1_fault s1_itemsMany s1_goneHeight s1_goneDid s1_now s1_isKept s1_refused s1_text s1_items s1_did s1_fewest s1_chosen s1_ends s1_rows s1_ways s1_then o0 o1 v1 v2 v3 v4 := by
  intro s_above s_below s_badCalls s_noCalls s_fullCalls s_road_high s_road_low s_road_passers_size s_road_passers_cells s_road_beasts_size s_road_beasts_cells s_road_checks_size s_road_checks_cells s_road_looks_size s_road_looks_cells s_trial_high s_trial_low s_trial_passers_size s_trial_passers_cells s_trial_beasts_size s_trial_beasts_cells s_trial_checks_size s_trial_checks_cells s_trial_looks_size s_trial_looks_cells s_text_length s_text_place s_text_next s_text_bytes s_text_items_size s_text_items_cells s_hiring_men s_hiring_goal s_hiring_goalMen s_hiring_fewest s_hiring_gains s_spread_now s_spread_later s_choices s_ends s_laterEnds s1_above s1_below s1_typed s1_at s1_start s1_sort s1_value s1_fault s1_itemsMany s1_goneHeight s1_goneDid s1_now s1_isKept s1_refused s1_text s1_items s1_did s1_fewest s1_chosen s1_ends s1_rows s1_ways s1_then o0 o1 v1 v2 v3 v4 hR
  obtain ⟨hRd, hI0, hI1, hT, hab, hbe, hb, hn, hfu⟩ := hR
  unfold pL_27
  obtain ⟨a, hok, hx, hm⟩ := hRd.ar
  refine ⟨fun e => ⟨fun eo => ?_, fun w0 eo => ?_⟩, fun e => ⟨fun eo => ?_, fun w0 eo => ?_⟩, fun e0 e1 => ?_⟩
  · subst e
    unfold pX11_image_n0
    refine x_img (a := 0) rfl (by omega) (fun _ => br1 ?_) (fun g => absurd g (by omega))
    refine x_rb hok hx (fun w0 w1 w2 w3 w4 w5 w6 w7 w8 w9 hx' => ?_)
    refine m_image (y := 0) rfl (by omega) (fun N' h1 h2 => ?_)
    have hk0 : upd s1_isKept 0 1 1 = s1_isKept 1 := upd_n _ _ (by omega)
    exact ⟨fun _ => ⟨hRd.congr (fun i a b => h2 i (by omega)), ⟨upd_s _ _ _, aRel hok hx' (aM.shift hok hm h1)⟩, (by rw [hk0]; exact hI1.congr (fun i a b => h2 i (by omega))), hT, hab, hbe, hb, hn, hfu⟩, fun z => z rfl⟩
  · subst e
    unfold pX11_image_s0
    refine x_img (a := 0) rfl (by omega) (fun _ => br1 ?_) (fun g => absurd g (by omega))
    refine x_rb hok hx (fun w0 w1 w2 w3 w4 w5 w6 w7 w8 w9 hx' => ?_)
    refine m_image (y := 0) rfl (by omega) (fun N' h1 h2 => ?_)
    have hk0 : upd s1_isKept 0 1 1 = s1_isKept 1 := upd_n _ _ (by omega)
    exact ⟨fun _ => ⟨hRd.congr (fun i a b => h2 i (by omega)), ⟨upd_s _ _ _, aRel hok hx' (aM.shift hok hm h1)⟩, (by rw [hk0]; exact hI1.congr (fun i a b => h2 i (by omega))), hT, hab, hbe, hb, hn, hfu⟩, fun z => z rfl⟩
  · subst e
    unfold pX11_image_n1
    refine x_img (a := 1) rfl (by omega) (fun _ => br1 ?_) (fun g => absurd g (by omega))
    refine x_rb hok hx (fun w0 w1 w2 w3 w4 w5 w6 w7 w8 w9 hx' => ?_)
    refine m_image (y := 1) rfl (by omega) (fun N' h1 h2 => ?_)
    have hk0 : upd s1_isKept 1 1 0 = s1_isKept 0 := upd_n _ _ (by omega)
    exact ⟨fun _ => ⟨hRd.congr (fun i a b => h2 i (by omega)), (by rw [hk0]; exact hI0.congr (fun i a b => h2 i (by omega))), ⟨upd_s _ _ _, aRel hok hx' (aM.shift hok hm h1)⟩, hT, hab, hbe, hb, hn, hfu⟩, fun z => z rfl⟩
  · subst e
    unfold pX11_image_s1
    refine x_img (a := 1) rfl (by omega) (fun _ => br1 ?_) (fun g => absurd g (by omega))
    refine x_rb hok hx (fun w0 w1 w2 w3 w4 w5 w6 w7 w8 w9 hx' => ?_)
    refine m_image (y := 1) rfl (by omega) (fun N' h1 h2 => ?_)
    have hk0 : upd s1_isKept 1 1 0 = s1_isKept 0 := upd_n _ _ (by omega)
    exact ⟨fun _ => ⟨hRd.congr (fun i a b => h2 i (by omega)), (by rw [hk0]; exact hI0.congr (fun i a b => h2 i (by omega))), ⟨upd_s _ _ _, aRel hok hx' (aM.shift hok hm h1)⟩, hT, hab, hbe, hb, hn, hfu⟩, fun z => z rfl⟩
  · obtain ⟨y, rfl, hy⟩ := zI_ex v1
    rw [z0, zI_eq hy (by omega)] at e0
    rw [z1, zI_eq hy (by omega)] at e1
    unfold pX11_image_b
    refine x_img rfl hy (fun g => absurd g (by omega)) (fun g => br0 ((x_counted_bad _ _ _ _).mpr ?_))
    refine m_imageB hy g ?_
    exact ⟨fun _ => ⟨hRd, hI0, hI1, hT, hab, hbe, by rw [upd_s, hb], (upd_n _ _ (by omega)).trans hn, (upd_n _ _ (by omega)).trans hfu⟩, fun z => z rfl⟩
set_option maxHeartbeats 4000000 in
theorem st_28 : ∀ (s_above : Int64) (s_below : Int64) (s_badCalls : Int32) (s_noCalls : Int32) (s_fullCalls : Int32) (s_road_high : Int32) (s_road_low : Int32) (s_road_passers_size : Int32) (s_road_passers_cells : Nat → Int32) (s_road_beasts_size : Int32) (s_road_beasts_cells : Nat → Int32) (s_road_checks_size : Int32) (s_road_checks_cells : Nat → Int32) (s_road_looks_size : Int32) (s_road_looks_cells : Nat → Int32) (s_trial_high : Int32) (s_trial_low : Int32) (s_trial_passers_size : Int32) (s_trial_passers_cells : Nat → Int32) (s_trial_beasts_size : Int32) (s_trial_beasts_cells : Nat → Int32) (s_trial_checks_size : Int32) (s_trial_checks_cells : Nat → Int32) (s_trial_looks_size : Int32) (s_trial_looks_cells : Nat → Int32) (s_text_length : Int32) (s_text_place : Int32) (s_text_next : Int32) (s_text_bytes : Nat → Int32) (s_text_items_size : Int32) (s_text_items_cells : Nat → Int32) (s_hiring_men : Int32) (s_hiring_goal : Int32) (s_hiring_goalMen : Int32) (s_hiring_fewest : Nat → Int32) (s_hiring_gains : Nat → Int32) (s_spread_now : Nat → Int64) (s_spread_later : Nat → Int64) (s_choices : Nat → Int32) (s_ends : Nat → Int32) (s_laterEnds : Nat → Int32) (s1_above : Int64) (s1_below : Int64) (s1_typed : Int32) (s1_at : Int32) (s1_start : Int32) (s1_sort : Int32) (s1_value : Int32) (s1_fault : Int32) (s1_itemsMany : Int32) (s1_goneHeight : Int32) (s1_goneDid : Int32) (s1_now : Nat → Int32) (s1_isKept : Nat → Int32) (s1_refused : Nat → Int32) (s1_text : Nat → Int32) (s1_items : Nat → Int32) (s1_did : Nat → Int32) (s1_fewest : Nat → Int32) (s1_chosen : Nat → Int32) (s1_ends : Nat → Int32) (s1_rows : Nat → Int32) (s1_ways : Nat → Int64) (s1_then : Nat → Int64) (o0 : Option RD) (o1 : Option RD) (v1 v2 v3 v4 : Int32), RelS s_above s_below s_badCalls s_noCalls s_fullCalls s_road_high s_road_low s_road_passers_size s_road_passers_cells s_road_beasts_size s_road_beasts_cells s_road_checks_size s_road_checks_cells s_road_looks_size s_road_looks_cells s_trial_high s_trial_low s_trial_passers_size s_trial_passers_cells s_trial_beasts_size s_trial_beasts_cells s_trial_checks_size s_trial_checks_cells s_trial_looks_size s_trial_looks_cells s_text_length s_text_place s_text_next s_text_bytes s_text_items_size s_text_items_cells s_hiring_men s_hiring_goal s_hiring_goalMen s_hiring_fewest s_hiring_gains s_spread_now s_spread_later s_choices s_ends s_laterEnds s1_above s1_below s1_typed s1_at s1_start s1_sort s1_value s1_fault s1_itemsMany s1_goneHeight s1_goneDid s1_now s1_isKept s1_refused s1_text s1_items s1_did s1_fewest s1_chosen s1_ends s1_rows s1_ways s1_then o0 o1 → pL_28 RelS s_above s_below s_badCalls s_noCalls s_fullCalls s_road_high s_road_low s_road_passers_size s_road_passers_cells s_road_beasts_size s_road_beasts_cells s_road_checks_size s_road_checks_cells s_road_looks_size s_road_looks_cells s_trial_high s_trial_low s_trial_passers_size s_trial_passers_cells s_trial_beasts_size s_trial_beasts_cells s_trial_checks_size s_trial_checks_cells s_trial_looks_size s_trial_looks_cells s_text_length s_text_place s_text_next s_text_bytes s_text_items_size s_text_items_cells s_hiring_men s_hiring_goal s_hiring_goalMen s_hiring_fewest s_hiring_gains s_spread_now s_spread_later s_choices s_ends s_laterEnds s1_above s1_below s1_typed s1_at s1_start s1_sort s1_value s1_fault s1_itemsMany s1_goneHeight s1_goneDid s1_now s1_isKept s1_refused s1_text s1_items s1_did s1_fewest s1_chosen s1_ends s1_rows s1_ways s1_then o0 o1 v1 v2 v3 v4 := by
  intro s_above s_below s_badCalls s_noCalls s_fullCalls s_road_high s_road_low s_road_passers_size s_road_passers_cells s_road_beasts_size s_road_beasts_cells s_road_checks_size s_road_checks_cells s_road_looks_size s_road_looks_cells s_trial_high s_trial_low s_trial_passers_size s_trial_passers_cells s_trial_beasts_size s_trial_beasts_cells s_trial_checks_size s_trial_checks_cells s_trial_looks_size s_trial_looks_cells s_text_length s_text_place s_text_next s_text_bytes s_text_items_size s_text_items_cells s_hiring_men s_hiring_goal s_hiring_goalMen s_hiring_fewest s_hiring_gains s_spread_now s_spread_later s_choices s_ends s_laterEnds s1_above s1_below s1_typed s1_at s1_start s1_sort s1_value s1_fault s1_itemsMany s1_goneHeight s1_goneDid s1_now s1_isKept s1_refused s1_text s1_items s1_did s1_fewest s1_chosen s1_ends s1_rows s1_ways s1_then o0 o1 v1 v2 v3 v4 hR
  obtain ⟨hRd, hI0, hI1, hT, hab, hbe, hb, hn, hfu⟩ := hR
  unfold pL_28
  refine ⟨fun e => ⟨fun eo => ?_, fun w0 eo => ?_⟩, fun e => ⟨fun eo => ?_, fun w0 eo => ?_⟩, fun e0 e1 => ?_⟩
  · subst e eo
    unfold pX11_from_n0
    refine x_img (a := 0) rfl (by omega) (fun _ => br1 ((x_counted_no _ _ _ _).mpr ?_)) (fun g => absurd g (by omega))
    refine m_from0 (y := 0) rfl (by omega) hI0 ?_
    exact ⟨fun _ => ⟨hRd, hI0, hI1, hT, hab, hbe, (upd_n _ _ (by omega)).trans hb, by rw [upd_s, hn], (upd_n _ _ (by omega)).trans hfu⟩, fun z => z rfl⟩
  · subst e eo
    obtain ⟨hk1, hr1⟩ := id hI0
    obtain ⟨a, hok, hx, hm⟩ := hr1.ar
    unfold pX11_from_s0
    refine x_img (a := 0) rfl (by omega) (fun _ => br1 ?_) (fun g => absurd g (by omega))
    refine x_rb hok hx (fun w0 w1 w2 w3 w4 w5 w6 w7 w8 w9 hx' => ?_)
    refine m_from1 (y := 0) rfl (by omega) hk1 (fun N' h1 h2 => ?_)
    exact ⟨fun _ => ⟨aRel hok hx' (aM.shift hok hm h1), hI0.congr (fun i a b => h2 i (by omega)), hI1.congr (fun i a b => h2 i (by omega)), hT, hab, hbe, hb, hn, hfu⟩, fun z => z rfl⟩
  · subst e eo
    unfold pX11_from_n1
    refine x_img (a := 1) rfl (by omega) (fun _ => br1 ((x_counted_no _ _ _ _).mpr ?_)) (fun g => absurd g (by omega))
    refine m_from0 (y := 1) rfl (by omega) hI1 ?_
    exact ⟨fun _ => ⟨hRd, hI0, hI1, hT, hab, hbe, (upd_n _ _ (by omega)).trans hb, by rw [upd_s, hn], (upd_n _ _ (by omega)).trans hfu⟩, fun z => z rfl⟩
  · subst e eo
    obtain ⟨hk1, hr1⟩ := id hI1
    obtain ⟨a, hok, hx, hm⟩ := hr1.ar
    unfold pX11_from_s1
    refine x_img (a := 1) rfl (by omega) (fun _ => br1 ?_) (fun g => absurd g (by omega))
    refine x_rb hok hx (fun w0 w1 w2 w3 w4 w5 w6 w7 w8 w9 hx' => ?_)
    refine m_from1 (y := 1) rfl (by omega) hk1 (fun N' h1 h2 => ?_)
    exact ⟨fun _ => ⟨aRel hok hx' (aM.shift hok hm h1), hI0.congr (fun i a b => h2 i (by omega)), hI1.congr (fun i a b => h2 i (by omega)), hT, hab, hbe, hb, hn, hfu⟩, fun z => z rfl⟩
  · obtain ⟨y, rfl, hy⟩ := zI_ex v1
    rw [z0, zI_eq hy (by omega)] at e0
    rw [z1, zI_eq hy (by omega)] at e1
    unfold pX11_from_b
    refine x_img rfl hy (fun g => absurd g (by omega)) (fun g => br0 ((x_counted_bad _ _ _ _).mpr ?_))
    refine m_fromB hy g ?_
    exact ⟨fun _ => ⟨hRd, hI0, hI1, hT, hab, hbe, by rw [upd_s, hb], (upd_n _ _ (by omega)).trans hn, (upd_n _ _ (by omega)).trans hfu⟩, fun z => z rfl⟩
/-! the digest -/
def mixF (f : Nat → Int32) : Nat → Nat → Int64 → Int64
  | 0, _, h => h
  | n + 1, i, h => mixF f n (i + 1) (31 * h + (f i).toInt64)
theorem mixF_congr {f g : Nat → Int32} : ∀ (n i j : Nat) (h : Int64), (∀ q, q < n → f (i + q) = g (j + q)) → mixF f n i h = mixF g n j h
  | 0, _, _, _, _ => rfl
  | n + 1, i, j, h, e => by
    have e0 := e 0 (by omega)
    rw [Nat.add_zero, Nat.add_zero] at e0
    show mixF f n (i + 1) (31 * h + (f i).toInt64) = mixF g n (j + 1) (31 * h + (g j).toInt64)
    rw [e0]
    exact mixF_congr n (i + 1) (j + 1) _ (fun q hq => by rw [show i + 1 + q = i + (q + 1) by omega, show j + 1 + q = j + (q + 1) by omega]; exact e (q + 1) (by omega))
theorem x_mix24 {n u : Nat} {cells : Nat → Int32} {kx : Int64 → Prop} (hn : n ≤ 1000) (hu : u ≤ n) : ∀ (j i : Nat) (h : Int64), i + j = u → kx (mixF cells j i h) → pX7_mixedInto_24 n cells kx (j + 1) h (zI u) (zI i)
  | 0, i, h, hi, hk => brT (by ((try simp only [zI_lit, zI_neg, zI_add, zI_sub, zI_mul, zI_n, ne_eq]) <;> (first | rw [zI_lt (by omega) (by omega)] | rw [zI_le (by omega) (by omega)] | rw [zI_eq (by omega) (by omega)]); try omega)) hk
  | j + 1, i, h, hi, hk => by
    refine brF (by ((try simp only [zI_lit, zI_neg, zI_add, zI_sub, zI_mul, zI_n, ne_eq]) <;> (first | rw [zI_lt (by omega) (by omega)] | rw [zI_le (by omega) (by omega)] | rw [zI_eq (by omega) (by omega)]); try omega)) ⟨by ((try simp only [zI_lit, zI_neg, zI_add, zI_sub, zI_mul, zI_n]); rw [zI_in (by omega)]; omega), ?_⟩
    have e1 : zI (i : Int) + 1 = zI ((i + 1 : Nat) : Int) := by ((try simp only [zI_lit, zI_neg, zI_add, zI_sub, zI_mul, zI_n]) <;> (first | rfl | (refine zI_eqI ?_; omega)))
    have e2 : (zI (i : Int)).toNatClampNeg = i := by ((try simp only [zI_lit, zI_neg, zI_add, zI_sub, zI_mul, zI_n]); rw [zI_clamp (by omega)]; omega)
    rw [e1, e2]
    exact x_mix24 hn hu j (i + 1) _ (by omega) hk
theorem x_mix {n w sz : Nat} {W : Int32} {cells : Nat → Int32} {h : Int64} {k : Int64 → Prop} (eW : W = zI w) (hn : n ≤ 1000) (hw : w ≤ 6) (hsz : sz ≤ 12) (hu : w * sz ≤ n) (hk : k (mixF cells (w * sz) 0 h)) : pX7_mixedInto n W (zI sz) cells h k := by
  unfold pX7_mixedInto
  have e0 : (sz : Int) * (w : Int) = ((w * sz : Nat) : Int) := by rw [Int.mul_comm]; simp
  have e : mmin (zI sz * W) (nI n) = zI ((w * sz : Nat) : Int) := by
    rw [eW, zI_mul, zI_n, e0, zI_min (by omega) (by omega)]
    by_cases q : ((n : Nat) : Int) < ((w * sz : Nat) : Int)
    · omega
    · rw [if_neg q]
  rw [e, z0]
  exact ⟨w * sz + 1, x_mix24 hn hu (w * sz) 0 h (by omega) hk⟩
theorem m_dig6 {N : Nat → Int32} {kx : Int64 → Prop} : ∀ (j i : Nat) (h : Int64), i + j = 4 → kx (mixF N j (2 + i) h) → pX12_digest_6 N kx (j + 1) h (zI i)
  | 0, i, h, hi, hk => brT (by ((try simp only [zI_lit, zI_neg, zI_add, zI_sub, zI_mul, zI_n, ne_eq]) <;> (first | rw [zI_lt (by omega) (by omega)] | rw [zI_le (by omega) (by omega)] | rw [zI_eq (by omega) (by omega)]); try omega)) hk
  | j + 1, i, h, hi, hk => by
    refine brF (by ((try simp only [zI_lit, zI_neg, zI_add, zI_sub, zI_mul, zI_n, ne_eq]) <;> (first | rw [zI_lt (by omega) (by omega)] | rw [zI_le (by omega) (by omega)] | rw [zI_eq (by omega) (by omega)]); try omega)) ⟨by ((try simp only [zI_lit, zI_neg, zI_add, zI_sub, zI_mul, zI_n]); rw [zI_in (by omega)]; omega), ?_⟩
    have e1 : zI (i : Int) + 1 = zI ((i + 1 : Nat) : Int) := by ((try simp only [zI_lit, zI_neg, zI_add, zI_sub, zI_mul, zI_n]) <;> (first | rfl | (refine zI_eqI ?_; omega)))
    have e2 : ((2 : Int32) + zI (i : Int)).toNatClampNeg = 2 + i := by ((try simp only [zI_lit, zI_neg, zI_add, zI_sub, zI_mul, zI_n]); rw [zI_clamp (by omega)]; omega)
    rw [e1, e2]
    exact m_dig6 j (i + 1) _ (by omega) hk
theorem m_dig75 {N : Nat → Int32} {n : Nat} (en : N 2 = zI n) (hn : 6 * n ≤ 72) {kx : Int64 → Prop} : ∀ (j i : Nat) (h : Int64), i + j = 6 * n → kx (mixF N j (6 + i) h) → pX12_digest_75 N kx (j + 1) h (zI i)
  | 0, i, h, hi, hk => brT (by rw [c2, en]; ((try simp only [zI_lit, zI_neg, zI_add, zI_sub, zI_mul, zI_n, ne_eq]) <;> (first | rw [zI_lt (by omega) (by omega)] | rw [zI_le (by omega) (by omega)] | rw [zI_eq (by omega) (by omega)]); try omega)) hk
  | j + 1, i, h, hi, hk => by
    refine brF (by rw [c2, en]; ((try simp only [zI_lit, zI_neg, zI_add, zI_sub, zI_mul, zI_n, ne_eq]) <;> (first | rw [zI_lt (by omega) (by omega)] | rw [zI_le (by omega) (by omega)] | rw [zI_eq (by omega) (by omega)]); try omega)) ⟨by ((try simp only [zI_lit, zI_neg, zI_add, zI_sub, zI_mul, zI_n]); rw [zI_in (by omega)]; omega), ?_⟩
    have e1 : zI (i : Int) + 1 = zI ((i + 1 : Nat) : Int) := by ((try simp only [zI_lit, zI_neg, zI_add, zI_sub, zI_mul, zI_n]) <;> (first | rfl | (refine zI_eqI ?_; omega)))
    have e2 : ((6 : Int32) + zI (i : Int)).toNatClampNeg = 6 + i := by ((try simp only [zI_lit, zI_neg, zI_add, zI_sub, zI_mul, zI_n]); rw [zI_clamp (by omega)]; omega)
    rw [e1, e2]
    exact m_dig75 en hn j (i + 1) _ (by omega) hk
theorem m_dig113 {N : Nat → Int32} {n : Nat} (en : N 3 = zI n) (hn : 2 * n ≤ 8) {kx : Int64 → Prop} : ∀ (j i : Nat) (h : Int64), i + j = 2 * n → kx (mixF N j (78 + i) h) → pX12_digest_113 N kx (j + 1) h (zI i)
  | 0, i, h, hi, hk => brT (by rw [c3, en]; ((try simp only [zI_lit, zI_neg, zI_add, zI_sub, zI_mul, zI_n, ne_eq]) <;> (first | rw [zI_lt (by omega) (by omega)] | rw [zI_le (by omega) (by omega)] | rw [zI_eq (by omega) (by omega)]); try omega)) hk
  | j + 1, i, h, hi, hk => by
    refine brF (by rw [c3, en]; ((try simp only [zI_lit, zI_neg, zI_add, zI_sub, zI_mul, zI_n, ne_eq]) <;> (first | rw [zI_lt (by omega) (by omega)] | rw [zI_le (by omega) (by omega)] | rw [zI_eq (by omega) (by omega)]); try omega)) ⟨by ((try simp only [zI_lit, zI_neg, zI_add, zI_sub, zI_mul, zI_n]); rw [zI_in (by omega)]; omega), ?_⟩
    have e1 : zI (i : Int) + 1 = zI ((i + 1 : Nat) : Int) := by ((try simp only [zI_lit, zI_neg, zI_add, zI_sub, zI_mul, zI_n]) <;> (first | rfl | (refine zI_eqI ?_; omega)))
    have e2 : ((78 : Int32) + zI (i : Int)).toNatClampNeg = 78 + i := by ((try simp only [zI_lit, zI_neg, zI_add, zI_sub, zI_mul, zI_n]); rw [zI_clamp (by omega)]; omega)
    rw [e1, e2]
    exact m_dig113 en hn j (i + 1) _ (by omega) hk
theorem m_dig150 {N : Nat → Int32} {n : Nat} (en : N 4 = zI n) (hn : 3 * n ≤ 15) {kx : Int64 → Prop} : ∀ (j i : Nat) (h : Int64), i + j = 3 * n → kx (mixF N j (86 + i) h) → pX12_digest_150 N kx (j + 1) h (zI i)
  | 0, i, h, hi, hk => brT (by rw [c4, en]; ((try simp only [zI_lit, zI_neg, zI_add, zI_sub, zI_mul, zI_n, ne_eq]) <;> (first | rw [zI_lt (by omega) (by omega)] | rw [zI_le (by omega) (by omega)] | rw [zI_eq (by omega) (by omega)]); try omega)) hk
  | j + 1, i, h, hi, hk => by
    refine brF (by rw [c4, en]; ((try simp only [zI_lit, zI_neg, zI_add, zI_sub, zI_mul, zI_n, ne_eq]) <;> (first | rw [zI_lt (by omega) (by omega)] | rw [zI_le (by omega) (by omega)] | rw [zI_eq (by omega) (by omega)]); try omega)) ⟨by ((try simp only [zI_lit, zI_neg, zI_add, zI_sub, zI_mul, zI_n]); rw [zI_in (by omega)]; omega), ?_⟩
    have e1 : zI (i : Int) + 1 = zI ((i + 1 : Nat) : Int) := by ((try simp only [zI_lit, zI_neg, zI_add, zI_sub, zI_mul, zI_n]) <;> (first | rfl | (refine zI_eqI ?_; omega)))
    have e2 : ((86 : Int32) + zI (i : Int)).toNatClampNeg = 86 + i := by ((try simp only [zI_lit, zI_neg, zI_add, zI_sub, zI_mul, zI_n]); rw [zI_clamp (by omega)]; omega)
    rw [e1, e2]
    exact m_dig150 en hn j (i + 1) _ (by omega) hk
theorem m_dig187 {N : Nat → Int32} {n : Nat} (en : N 5 = zI n) (hn : 2 * n ≤ 12) {kx : Int64 → Prop} : ∀ (j i : Nat) (h : Int64), i + j = 2 * n → kx (mixF N j (101 + i) h) → pX12_digest_187 N kx (j + 1) h (zI i)
  | 0, i, h, hi, hk => brT (by rw [c5, en]; ((try simp only [zI_lit, zI_neg, zI_add, zI_sub, zI_mul, zI_n, ne_eq]) <;> (first | rw [zI_lt (by omega) (by omega)] | rw [zI_le (by omega) (by omega)] | rw [zI_eq (by omega) (by omega)]); try omega)) hk
  | j + 1, i, h, hi, hk => by
    refine brF (by rw [c5, en]; ((try simp only [zI_lit, zI_neg, zI_add, zI_sub, zI_mul, zI_n, ne_eq]) <;> (first | rw [zI_lt (by omega) (by omega)] | rw [zI_le (by omega) (by omega)] | rw [zI_eq (by omega) (by omega)]); try omega)) ⟨by ((try simp only [zI_lit, zI_neg, zI_add, zI_sub, zI_mul, zI_n]); rw [zI_in (by omega)]; omega), ?_⟩
    have e1 : zI (i : Int) + 1 = zI ((i + 1 : Nat) : Int) := by ((try simp only [zI_lit, zI_neg, zI_add, zI_sub, zI_mul, zI_n]) <;> (first | rfl | (refine zI_eqI ?_; omega)))
    have e2 : ((101 : Int32) + zI (i : Int)).toNatClampNeg = 101 + i := by ((try simp only [zI_lit, zI_neg, zI_add, zI_sub, zI_mul, zI_n]); rw [zI_clamp (by omega)]; omega)
    rw [e1, e2]
    exact m_dig187 en hn j (i + 1) _ (by omega) hk
theorem rowsIn.cell {w n o : Nat} {c : Nat → Int32} {F : Nat → Nat → Int} (h : rowsIn w n o c F) (hw : 0 < w) (i : Nat) (hi : i < w * n) : c (o + i) = zI (F (i / w) (i % w)) := by
  have h1 := Nat.div_add_mod i w
  have h2 : i / w < n := by rw [Nat.div_lt_iff_lt_mul hw, Nat.mul_comm]; exact hi
  have h3 := h (i / w) (i % w) h2 (Nat.mod_lt i hw)
  rw [Nat.add_assoc, h1] at h3
  exact h3
theorem mix_same {w n o o' : Nat} {c c' : Nat → Int32} {F : Nat → Nat → Int} (h : rowsIn w n o c F) (h' : rowsIn w n o' c' F) (hw : 0 < w) (x : Int64) : mixF c (w * n) o x = mixF c' (w * n) o' x :=
  mixF_congr _ _ _ _ (fun q hq => by rw [h.cell hw q hq, h'.cell hw q hq])
set_option maxHeartbeats 4000000 in
theorem st_31 : ∀ (s_above : Int64) (s_below : Int64) (s_badCalls : Int32) (s_noCalls : Int32) (s_fullCalls : Int32) (s_road_high : Int32) (s_road_low : Int32) (s_road_passers_size : Int32) (s_road_passers_cells : Nat → Int32) (s_road_beasts_size : Int32) (s_road_beasts_cells : Nat → Int32) (s_road_checks_size : Int32) (s_road_checks_cells : Nat → Int32) (s_road_looks_size : Int32) (s_road_looks_cells : Nat → Int32) (s_trial_high : Int32) (s_trial_low : Int32) (s_trial_passers_size : Int32) (s_trial_passers_cells : Nat → Int32) (s_trial_beasts_size : Int32) (s_trial_beasts_cells : Nat → Int32) (s_trial_checks_size : Int32) (s_trial_checks_cells : Nat → Int32) (s_trial_looks_size : Int32) (s_trial_looks_cells : Nat → Int32) (s_text_length : Int32) (s_text_place : Int32) (s_text_next : Int32) (s_text_bytes : Nat → Int32) (s_text_items_size : Int32) (s_text_items_cells : Nat → Int32) (s_hiring_men : Int32) (s_hiring_goal : Int32) (s_hiring_goalMen : Int32) (s_hiring_fewest : Nat → Int32) (s_hiring_gains : Nat → Int32) (s_spread_now : Nat → Int64) (s_spread_later : Nat → Int64) (s_choices : Nat → Int32) (s_ends : Nat → Int32) (s_laterEnds : Nat → Int32) (s1_above : Int64) (s1_below : Int64) (s1_typed : Int32) (s1_at : Int32) (s1_start : Int32) (s1_sort : Int32) (s1_value : Int32) (s1_fault : Int32) (s1_itemsMany : Int32) (s1_goneHeight : Int32) (s1_goneDid : Int32) (s1_now : Nat → Int32) (s1_isKept : Nat → Int32) (s1_refused : Nat → Int32) (s1_text : Nat → Int32) (s1_items : Nat → Int32) (s1_did : Nat → Int32) (s1_fewest : Nat → Int32) (s1_chosen : Nat → Int32) (s1_ends : Nat → Int32) (s1_rows : Nat → Int32) (s1_ways : Nat → Int64) (s1_then : Nat → Int64) (o0 : Option RD) (o1 : Option RD) (v1 v2 v3 v4 : Int32), RelS s_above s_below s_badCalls s_noCalls s_fullCalls s_road_high s_road_low s_road_passers_size s_road_passers_cells s_road_beasts_size s_road_beasts_cells s_road_checks_size s_road_checks_cells s_road_looks_size s_road_looks_cells s_trial_high s_trial_low s_trial_passers_size s_trial_passers_cells s_trial_beasts_size s_trial_beasts_cells s_trial_checks_size s_trial_checks_cells s_trial_looks_size s_trial_looks_cells s_text_length s_text_place s_text_next s_text_bytes s_text_items_size s_text_items_cells s_hiring_men s_hiring_goal s_hiring_goalMen s_hiring_fewest s_hiring_gains s_spread_now s_spread_later s_choices s_ends s_laterEnds s1_above s1_below s1_typed s1_at s1_start s1_sort s1_value s1_fault s1_itemsMany s1_goneHeight s1_goneDid s1_now s1_isKept s1_refused s1_text s1_items s1_did s1_fewest s1_chosen s1_ends s1_rows s1_ways s1_then o0 o1 → pL_31 RelS s_above s_below s_badCalls s_noCalls s_fullCalls s_road_high s_road_low s_road_passers_size s_road_passers_cells s_road_beasts_size s_road_beasts_cells s_road_checks_size s_road_checks_cells s_road_looks_size s_road_looks_cells s_trial_high s_trial_low s_trial_passers_size s_trial_passers_cells s_trial_beasts_size s_trial_beasts_cells s_trial_checks_size s_trial_checks_cells s_trial_looks_size s_trial_looks_cells s_text_length s_text_place s_text_next s_text_bytes s_text_items_size s_text_items_cells s_hiring_men s_hiring_goal s_hiring_goalMen s_hiring_fewest s_hiring_gains s_spread_now s_spread_later s_choices s_ends s_laterEnds s1_above s1_below s1_typed s1_at s1_start s1_sort s1_value s1_fault s1_itemsMany s1_goneHeight s1_goneDid s1_now s1_isKept s1_refused s1_text s1_items s1_did s1_fewest s1_chosen s1_ends s1_rows s1_ways s1_then o0 o1 v1 v2 v3 v4 := by
  intro s_above s_below s_badCalls s_noCalls s_fullCalls s_road_high s_road_low s_road_passers_size s_road_passers_cells s_road_beasts_size s_road_beasts_cells s_road_checks_size s_road_checks_cells s_road_looks_size s_road_looks_cells s_trial_high s_trial_low s_trial_passers_size s_trial_passers_cells s_trial_beasts_size s_trial_beasts_cells s_trial_checks_size s_trial_checks_cells s_trial_looks_size s_trial_looks_cells s_text_length s_text_place s_text_next s_text_bytes s_text_items_size s_text_items_cells s_hiring_men s_hiring_goal s_hiring_goalMen s_hiring_fewest s_hiring_gains s_spread_now s_spread_later s_choices s_ends s_laterEnds s1_above s1_below s1_typed s1_at s1_start s1_sort s1_value s1_fault s1_itemsMany s1_goneHeight s1_goneDid s1_now s1_isKept s1_refused s1_text s1_items s1_did s1_fewest s1_chosen s1_ends s1_rows s1_ways s1_then o0 o1 v1 v2 v3 v4 hR
  obtain ⟨hRd, hI0, hI1, hT, hab, hbe, hb, hn, hfu⟩ := hR
  unfold pL_31 pX11_digest pX12_digest pX7_size pX6_size
  have hRd' := hRd
  obtain ⟨h, lo, np, nb, nc, nl, P, B, C, L, hok, hx, hm⟩ := hRd
  obtain ⟨x1, x2, x3, x4, x5, x6, x7, x8, x9, x10⟩ := id hx
  obtain ⟨m1, m2, m3, m4, m5, m6, m7, m8, m9, m10⟩ := id hm
  dsimp only at x1 x2 x3 x4 x5 x6 x7 x8 x9 x10
  obtain ⟨t, ht, t1, t2, t3⟩ := id hT
  have n1 := hok.2.2.1.1
  have n2 := hok.2.2.2.1.1
  have n3 := hok.2.2.2.2.1.1
  have n4 := hok.2.2.2.2.2.1
  rw [x3, x5, x7, x9]
  refine x_mix (w := 6) rfl (by omega) (by omega) (by omega) (by omega) ?_
  refine x_mix (w := 2) rfl (by omega) (by omega) (by omega) (by omega) ?_
  refine x_mix (w := 3) rfl (by omega) (by omega) (by omega) (by omega) ?_
  refine x_mix (w := 2) rfl (by omega) (by omega) (by omega) (by omega) ?_
  refine ⟨5, m_dig6 4 0 _ (by omega) ?_⟩
  refine ⟨6 * np + 1, m_dig75 m3 (by omega) (6 * np) 0 _ (by omega) ?_⟩
  refine ⟨2 * nb + 1, m_dig113 m4 (by omega) (2 * nb) 0 _ (by omega) ?_⟩
  refine ⟨3 * nc + 1, m_dig150 m5 (by omega) (3 * nc) 0 _ (by omega) ?_⟩
  refine ⟨2 * nl + 1, m_dig187 m6 (by omega) (2 * nl) 0 _ (by omega) ?_⟩
  have d2 : s1_now 2 = zI np := m3
  have d3 : s1_now 3 = zI nb := m4
  have d4 : s1_now 4 = zI nc := m5
  have d5 : s1_now 5 = zI nl := m6
  have d0 : s1_now 0 = zI h := m1
  have d1 : s1_now 1 = zI lo := m2
  refine ⟨fun _ => ⟨?_, hI0, hI1, hT, hab, hbe, hb, hn, hfu⟩, fun z => z ((lg_cmp_eq _ _).mpr ?_)⟩
  · rw [← x3, ← x5, ← x7, ← x9]; exact hRd'
  · rw [mix_same x4 m7 (by omega), mix_same x6 m8 (by omega), mix_same x8 m9 (by omega), mix_same x10 m10 (by omega)]
    simp only [mixF, c0, c1, d0, d1, d2, d3, d4, d5, x1, x2, t1, t2, hab, hbe, Nat.add_zero, Nat.zero_add]
