/-! the steps that walk -/
def ab (z : Int) : Int := if 0 ≤ z then z else -z
theorem ab_n (z : Int) : 0 ≤ ab z := by unfold ab; split <;> omega
theorem ab_b {z b : Int} (h : -b ≤ z ∧ z ≤ b) : ab z ≤ b := by unfold ab; split <;> omega
theorem x_ab {z : Int} (h : -2147483647 ≤ z ∧ z < 2147483648) : mabs (zI z) = zI (ab z) := zI_abs h
theorem m_ap {a b : Int} {k : Int32 → Prop} (ha : -1000000 ≤ a ∧ a ≤ 1000000) (hb : -1000000 ≤ b ∧ b ≤ 1000000) (hk : k (zI (ab (a - b)))) : pX12_apart (zI a) (zI b) k := by
  unfold pX12_apart
  by_cases q : b ≤ a
  · refine brT (by ((try simp only [zI_lit, zI_neg, zI_add, zI_sub, zI_mul, zI_n, ne_eq]) <;> (first | rw [zI_lt (by omega) (by omega)] | rw [zI_le (by omega) (by omega)] | rw [zI_eq (by omega) (by omega)]); try omega)) ?_
    rw [zI_sub]
    unfold ab at hk; rw [if_pos (by omega)] at hk; exact hk
  · refine brF (by ((try simp only [zI_lit, zI_neg, zI_add, zI_sub, zI_mul, zI_n, ne_eq]) <;> (first | rw [zI_lt (by omega) (by omega)] | rw [zI_le (by omega) (by omega)] | rw [zI_eq (by omega) (by omega)]); try omega)) ?_
    rw [zI_sub]
    unfold ab at hk; rw [if_neg (by omega), Int.neg_sub] at hk; exact hk
theorem cn_all {P : Nat → Nat → Int} {np : Nat} (hP : okP np P) : cn P 99 np = np := by
  cases np with
  | zero => rfl
  | succ n =>
    have h1 := (cn_iff (P := P) 99 (n + 1) hP.2.2 n (by omega)).1 (hP.2.1 n (by omega)).1.2
    have h2 := cn_le P 99 (n + 1)
    omega
theorem x_wE {np : Nat} {cells : Nat → Int32} {P : Nat → Nat → Int} (hx : rowsIn 6 np 0 cells P) (hP : okP np P) {k : Int32 → Prop} {I J : Int32} (n i : Nat) (ei : I = zI i) (ej : J = zI ((i + n : Nat) : Int)) {h d : Int} (hi : i + n ≤ np) (a : 0 ≤ h ∧ h ≤ 30) (b : -2 ≤ d ∧ d ≤ 1) (hk : k (zI (sd (wk P n i h d).1 (wk P n i h d).2))) : pX5_walk cells I J (zI (sd h d)) k := by
  rw [ei, ej]; exact x_walk hx hP n i _ rfl h d hi a b hk
section HIN
variable {np : Nat} {N : Nat → Int32} {P : Nat → Nat → Int} {h m : Int}
theorem m_hin12 (e2 : N 2 = zI np) (hx : rowsIn 6 np (0 + 6) N P) (hP : okP np P) (hh : 0 ≤ h ∧ h ≤ 30) (hm : -1 ≤ m ∧ m ≤ 99) {kx : Int32 → (Nat → Int32) → Prop} : ∀ (j i : Nat) (D : Nat → Int32), i + j = np → (∀ D', (∀ q, q < i → D' q = D q) → (∀ q, i ≤ q → q < np → D' q = if q < cn P m np then zI (wk P (q + 1) 0 h 0).2 else 0) → kx (zI (wk P (cn P m np) 0 h 0).1) D') → pX12_heightIn_12 N kx (j + 1) (zI m) (zI (wk P (min i (cn P m np)) 0 h 0).1) (zI (wk P (min i (cn P m np)) 0 h 0).2) (zI i) D
  | 0, i, D, hi, hk => by
    have h12 := hP.1
    have hc := cn_le P m np
    have q := hk D (fun q _ => rfl) (fun q a b => absurd b (by omega))
    rw [show min i (cn P m np) = cn P m np by omega]
    exact brT (by rw [c2, e2]; ((try simp only [zI_lit, zI_neg, zI_add, zI_sub, zI_mul, zI_n, ne_eq]) <;> (first | rw [zI_lt (by omega) (by omega)] | rw [zI_le (by omega) (by omega)] | rw [zI_eq (by omega) (by omega)]); try omega)) q
  | j + 1, i, D, hi, hk => by
    have h12 := hP.1
    have hc := cn_le P m np
    have hw := wk_b P (min i (cn P m np)) 0 h 0 hh (by omega)
    have ho := (hP.2.1 i (by omega)).1
    have hI := cn_iff (P := P) m np hP.2.2 i (by omega)
    have e1 : zI (i : Int) + 1 = zI ((i + 1 : Nat) : Int) := by ((try simp only [zI_lit, zI_neg, zI_add, zI_sub, zI_mul, zI_n]) <;> (first | rfl | (refine zI_eqI ?_; omega)))
    have e3 : (zI (i : Int)).toNatClampNeg = i := by ((try simp only [zI_lit, zI_neg, zI_add, zI_sub, zI_mul, zI_n]); rw [zI_clamp (by omega)]; omega)
    refine brF (by rw [c2, e2]; ((try simp only [zI_lit, zI_neg, zI_add, zI_sub, zI_mul, zI_n, ne_eq]) <;> (first | rw [zI_lt (by omega) (by omega)] | rw [zI_le (by omega) (by omega)] | rw [zI_eq (by omega) (by omega)]); try omega)) ⟨by ((try simp only [zI_lit, zI_neg, zI_add, zI_sub, zI_mul, zI_n]); rw [zI_in (by omega)]; omega), m_p hx h12 (by omega) 0 rfl (by omega) ?_⟩
    by_cases g : P i 0 ≤ m
    · have g2 := hI.1 g
      have em : min i (cn P m np) = i := by omega
      have em2 : min (i + 1) (cn P m np) = i + 1 := by omega
      rw [em] at hw
      rw [em]
      refine brF (by ((try simp only [zI_lit, zI_neg, zI_add, zI_sub, zI_mul, zI_n, ne_eq]) <;> (first | rw [zI_lt (by omega) (by omega)] | rw [zI_le (by omega) (by omega)] | rw [zI_eq (by omega) (by omega)]); try omega)) (m_act hx hP (by omega) hw.1 hw.2 ⟨by ((try simp only [zI_lit, zI_neg, zI_add, zI_sub, zI_mul, zI_n]); rw [zI_in (by omega)]; omega), ?_⟩)
      have ws := wk_s P i 0 h 0
      rw [Nat.zero_add] at ws
      have rcq := m_hin12 e2 hx hP hh hm (kx := kx) j (i + 1) (upd (upd D i 0) i (zI (dd (P i) (wk P i 0 h 0).1 (wk P i 0 h 0).2))) (by omega) (fun D' a1 a2 => hk D' (fun q hq => by rw [a1 q (by omega), upd_n _ _ (by omega), upd_n _ _ (by omega)]) (fun q b1 b2 => by
        by_cases eq : q = i
        · rw [a1 q (by omega), eq, upd_s, if_pos g2, ws]
        · exact a2 q (by omega) b2))
      rw [em2, ws] at rcq
      rw [e1, e3, zI_add]
      exact rcq
    · have g2 : ¬ i < cn P m np := fun z => g (hI.2 z)
      have em : min i (cn P m np) = min (i + 1) (cn P m np) := by omega
      refine brT (by ((try simp only [zI_lit, zI_neg, zI_add, zI_sub, zI_mul, zI_n, ne_eq]) <;> (first | rw [zI_lt (by omega) (by omega)] | rw [zI_le (by omega) (by omega)] | rw [zI_eq (by omega) (by omega)]); try omega)) ?_
      rw [em, e1, e3]
      exact m_hin12 e2 hx hP hh hm j (i + 1) _ (by omega) (fun D' a1 a2 => hk D' (fun q hq => by rw [a1 q (by omega), upd_n _ _ (by omega)]) (fun q b1 b2 => by
        by_cases eq : q = i
        · rw [a1 q (by omega), eq, upd_s, if_neg g2]
        · exact a2 q (by omega) b2))
theorem m_hin (e0 : N 0 = zI h) (e2 : N 2 = zI np) (hx : rowsIn 6 np (0 + 6) N P) (hP : okP np P) (hh : 0 ≤ h ∧ h ≤ 30) {M : Int32} (eM : M = zI m) (hm : -1 ≤ m ∧ m ≤ 99) {D : Nat → Int32} {k : Int32 → (Nat → Int32) → Prop} (hk : ∀ D', (∀ q, q < np → D' q = if q < cn P m np then zI (wk P (q + 1) 0 h 0).2 else 0) → k (zI (wk P (cn P m np) 0 h 0).1) D') : pX12_heightIn N D M k := by
  unfold pX12_heightIn
  rw [c0, e0, eM]
  have q := m_hin12 e2 hx hP hh hm (kx := k) np 0 D (by omega) (fun D' _ a2 => hk D' (fun q hq => a2 q (by omega) hq))
  rw [show min 0 (cn P m np) = 0 by omega] at q
  exact ⟨np + 1, q⟩
theorem m_hin99 (e0 : N 0 = zI h) (e2 : N 2 = zI np) (hx : rowsIn 6 np (0 + 6) N P) (hP : okP np P) (hh : 0 ≤ h ∧ h ≤ 30) {D : Nat → Int32} {k : Int32 → (Nat → Int32) → Prop} (hk : ∀ D', (∀ q, q < np → D' q = zI (wk P (q + 1) 0 h 0).2) → k (zI (wk P np 0 h 0).1) D') : pX12_heightIn N D 99 k := by
  refine m_hin (m := 99) e0 e2 hx hP hh rfl (by omega) (fun D' hD => ?_)
  rw [cn_all hP] at hD ⊢
  exact hk D' (fun q hq => by rw [hD q hq, if_pos hq])
end HIN
set_option maxHeartbeats 4000000 in
theorem st_9 : ∀ (s_above : Int64) (s_below : Int64) (s_badCalls : Int32) (s_noCalls : Int32) (s_fullCalls : Int32) (s_road_high : Int32) (s_road_low : Int32) (s_road_passers_size : Int32) (s_road_passers_cells : Nat → Int32) (s_road_beasts_size : Int32) (s_road_beasts_cells : Nat → Int32) (s_road_checks_size : Int32) (s_road_checks_cells : Nat → Int32) (s_road_looks_size : Int32) (s_road_looks_cells : Nat → Int32) (s_trial_high : Int32) (s_trial_low : Int32) (s_trial_passers_size : Int32) (s_trial_passers_cells : Nat → Int32) (s_trial_beasts_size : Int32) (s_trial_beasts_cells : Nat → Int32) (s_trial_checks_size : Int32) (s_trial_checks_cells : Nat → Int32) (s_trial_looks_size : Int32) (s_trial_looks_cells : Nat → Int32) (s_text_length : Int32) (s_text_place : Int32) (s_text_next : Int32) (s_text_bytes : Nat → Int32) (s_text_items_size : Int32) (s_text_items_cells : Nat → Int32) (s_hiring_men : Int32) (s_hiring_goal : Int32) (s_hiring_goalMen : Int32) (s_hiring_fewest : Nat → Int32) (s_hiring_gains : Nat → Int32) (s_spread_now : Nat → Int64) (s_spread_later : Nat → Int64) (s_choices : Nat → Int32) (s_ends : Nat → Int32) (s_laterEnds : Nat → Int32) (s1_above : Int64) (s1_below : Int64) (s1_typed : Int32) (s1_at : Int32) (s1_start : Int32) (s1_sort : Int32) (s1_value : Int32) (s1_fault : Int32) (s1_itemsMany : Int32) (s1_goneHeight : Int32) (s1_goneDid : Int32) (s1_now : Nat → Int32) (s1_isKept : Nat → Int32) (s1_refused : Nat → Int32) (s1_text : Nat → Int32) (s1_items : Nat → Int32) (s1_did : Nat → Int32) (s1_fewest : Nat → Int32) (s1_chosen : Nat → Int32) (s1_ends : Nat → Int32) (s1_rows : Nat → Int32) (s1_ways : Nat → Int64) (s1_then : Nat → Int64) (o0 : Option RD) (o1 : Option RD) (v1 v2 v3 v4 : Int32), RelS s_above s_below s_badCalls s_noCalls s_fullCalls s_road_high s_road_low s_road_passers_size s_road_passers_cells s_road_beasts_size s_road_beasts_cells s_road_checks_size s_road_checks_cells s_road_looks_size s_road_looks_cells s_trial_high s_trial_low s_trial_passers_size s_trial_passers_cells s_trial_beasts_size s_trial_beasts_cells s_trial_checks_size s_trial_checks_cells s_trial_looks_size s_trial_looks_cells s_text_length s_text_place s_text_next s_text_bytes s_text_items_size s_text_items_cells s_hiring_men s_hiring_goal s_hiring_goalMen s_hiring_fewest s_hiring_gains s_spread_now s_spread_later s_choices s_ends s_laterEnds s1_above s1_below s1_typed s1_at s1_start s1_sort s1_value s1_fault s1_itemsMany s1_goneHeight s1_goneDid s1_now s1_isKept s1_refused s1_text s1_items s1_did s1_fewest s1_chosen s1_ends s1_rows s1_ways s1_then o0 o1 → pL_9 RelS s_above s_below s_badCalls s_noCalls s_fullCalls s_road_high s_road_low s_road_passers_size s_road_passers_cells s_road_beasts_size s_road_beasts_cells s_road_checks_size s_road_checks_cells s_road_looks_size s_road_looks_cells s_trial_high s_trial_low s_trial_passers_size s_trial_passers_cells s_trial_beasts_size s_trial_beasts_cells s_trial_checks_size s_trial_checks_cells s_trial_looks_size s_trial_looks_cells s_text_length s_text_place s_text_next s_text_bytes s_text_items_size s_text_items_cells s_hiring_men s_hiring_goal s_hiring_goalMen s_hiring_fewest s_hiring_gains s_spread_now s_spread_later s_choices s_ends s_laterEnds s1_above s1_below s1_typed s1_at s1_start s1_sort s1_value s1_fault s1_itemsMany s1_goneHeight s1_goneDid s1_now s1_isKept s1_refused s1_text s1_items s1_did s1_fewest s1_chosen s1_ends s1_rows s1_ways s1_then o0 o1 v1 v2 v3 v4 := by
  intro s_above s_below s_badCalls s_noCalls s_fullCalls s_road_high s_road_low s_road_passers_size s_road_passers_cells s_road_beasts_size s_road_beasts_cells s_road_checks_size s_road_checks_cells s_road_looks_size s_road_looks_cells s_trial_high s_trial_low s_trial_passers_size s_trial_passers_cells s_trial_beasts_size s_trial_beasts_cells s_trial_checks_size s_trial_checks_cells s_trial_looks_size s_trial_looks_cells s_text_length s_text_place s_text_next s_text_bytes s_text_items_size s_text_items_cells s_hiring_men s_hiring_goal s_hiring_goalMen s_hiring_fewest s_hiring_gains s_spread_now s_spread_later s_choices s_ends s_laterEnds s1_above s1_below s1_typed s1_at s1_start s1_sort s1_value s1_fault s1_itemsMany s1_goneHeight s1_goneDid s1_now s1_isKept s1_refused s1_text s1_items s1_did s1_fewest s1_chosen s1_ends s1_rows s1_ways s1_then o0 o1 v1 v2 v3 v4 hR
  obtain ⟨hRd, hI0, hI1, hT, hab, hbe, hb, hn, hfu⟩ := hR
  unfold pL_9 pX11_height pX12_height
  obtain ⟨h, lo, np, nb, nc, nl, P, B, C, L, hok, hx, hm⟩ := id hRd
  obtain ⟨x1, x2, x3, x4, x5, x6, x7, x8, x9, x10⟩ := id hx
  obtain ⟨m1, m2, m3, m4, m5, m6, m7, m8, m9, m10⟩ := id hm
  dsimp only at x1 x2 x3 x4 x5 x6 x7 x8 x9 x10
  have hP := hok.2.2.1
  have n1 := hP.1
  subst x1 x2 x3 x5 x7 x9
  obtain ⟨y1, rfl, hz1⟩ := zI_ex v1
  refine x_mi hz1 (fun g => br1 (x_highIn x4 hP (by omega) hok.1 ?_)) (fun g => br0 ((x_counted_bad _ _ _ _).mpr ?_))
  · refine m_wi (b := 0) (c := 99) rfl rfl hz1 (by omega) (by omega) (fun _ => br1 (m_hin m1 m3 m7 hP hok.1 rfl (by omega) (fun D' _ => ?_))) (fun g' => absurd g g')
    exact ⟨fun _ => ⟨hRd, hI0, hI1, hT, hab, hbe, hb, hn, hfu⟩, fun z => z rfl⟩
  · refine m_wi (b := 0) (c := 99) rfl rfl hz1 (by omega) (by omega) (fun g' => absurd g' g) (fun _ => br0 ((m_bad _ _).mpr ?_))
    exact ⟨fun _ => ⟨hRd, hI0, hI1, hT, hab, hbe, by rw [upd_s, hb], (upd_n _ _ (by omega)).trans hn, (upd_n _ _ (by omega)).trans hfu⟩, fun z => z rfl⟩
set_option maxHeartbeats 4000000 in
theorem st_10 : ∀ (s_above : Int64) (s_below : Int64) (s_badCalls : Int32) (s_noCalls : Int32) (s_fullCalls : Int32) (s_road_high : Int32) (s_road_low : Int32) (s_road_passers_size : Int32) (s_road_passers_cells : Nat → Int32) (s_road_beasts_size : Int32) (s_road_beasts_cells : Nat → Int32) (s_road_checks_size : Int32) (s_road_checks_cells : Nat → Int32) (s_road_looks_size : Int32) (s_road_looks_cells : Nat → Int32) (s_trial_high : Int32) (s_trial_low : Int32) (s_trial_passers_size : Int32) (s_trial_passers_cells : Nat → Int32) (s_trial_beasts_size : Int32) (s_trial_beasts_cells : Nat → Int32) (s_trial_checks_size : Int32) (s_trial_checks_cells : Nat → Int32) (s_trial_looks_size : Int32) (s_trial_looks_cells : Nat → Int32) (s_text_length : Int32) (s_text_place : Int32) (s_text_next : Int32) (s_text_bytes : Nat → Int32) (s_text_items_size : Int32) (s_text_items_cells : Nat → Int32) (s_hiring_men : Int32) (s_hiring_goal : Int32) (s_hiring_goalMen : Int32) (s_hiring_fewest : Nat → Int32) (s_hiring_gains : Nat → Int32) (s_spread_now : Nat → Int64) (s_spread_later : Nat → Int64) (s_choices : Nat → Int32) (s_ends : Nat → Int32) (s_laterEnds : Nat → Int32) (s1_above : Int64) (s1_below : Int64) (s1_typed : Int32) (s1_at : Int32) (s1_start : Int32) (s1_sort : Int32) (s1_value : Int32) (s1_fault : Int32) (s1_itemsMany : Int32) (s1_goneHeight : Int32) (s1_goneDid : Int32) (s1_now : Nat → Int32) (s1_isKept : Nat → Int32) (s1_refused : Nat → Int32) (s1_text : Nat → Int32) (s1_items : Nat → Int32) (s1_did : Nat → Int32) (s1_fewest : Nat → Int32) (s1_chosen : Nat → Int32) (s1_ends : Nat → Int32) (s1_rows : Nat → Int32) (s1_ways : Nat → Int64) (s1_then : Nat → Int64) (o0 : Option RD) (o1 : Option RD) (v1 v2 v3 v4 : Int32), RelS s_above s_below s_badCalls s_noCalls s_fullCalls s_road_high s_road_low s_road_passers_size s_road_passers_cells s_road_beasts_size s_road_beasts_cells s_road_checks_size s_road_checks_cells s_road_looks_size s_road_looks_cells s_trial_high s_trial_low s_trial_passers_size s_trial_passers_cells s_trial_beasts_size s_trial_beasts_cells s_trial_checks_size s_trial_checks_cells s_trial_looks_size s_trial_looks_cells s_text_length s_text_place s_text_next s_text_bytes s_text_items_size s_text_items_cells s_hiring_men s_hiring_goal s_hiring_goalMen s_hiring_fewest s_hiring_gains s_spread_now s_spread_later s_choices s_ends s_laterEnds s1_above s1_below s1_typed s1_at s1_start s1_sort s1_value s1_fault s1_itemsMany s1_goneHeight s1_goneDid s1_now s1_isKept s1_refused s1_text s1_items s1_did s1_fewest s1_chosen s1_ends s1_rows s1_ways s1_then o0 o1 → pL_10 RelS s_above s_below s_badCalls s_noCalls s_fullCalls s_road_high s_road_low s_road_passers_size s_road_passers_cells s_road_beasts_size s_road_beasts_cells s_road_checks_size s_road_checks_cells s_road_looks_size s_road_looks_cells s_trial_high s_trial_low s_trial_passers_size s_trial_passers_cells s_trial_beasts_size s_trial_beasts_cells s_trial_checks_size s_trial_checks_cells s_trial_looks_size s_trial_looks_cells s_text_length s_text_place s_text_next s_text_bytes s_text_items_size s_text_items_cells s_hiring_men s_hiring_goal s_hiring_goalMen s_hiring_fewest s_hiring_gains s_spread_now s_spread_later s_choices s_ends s_laterEnds s1_above s1_below s1_typed s1_at s1_start s1_sort s1_value s1_fault s1_itemsMany s1_goneHeight s1_goneDid s1_now s1_isKept s1_refused s1_text s1_items s1_did s1_fewest s1_chosen s1_ends s1_rows s1_ways s1_then o0 o1 v1 v2 v3 v4 := by
  intro s_above s_below s_badCalls s_noCalls s_fullCalls s_road_high s_road_low s_road_passers_size s_road_passers_cells s_road_beasts_size s_road_beasts_cells s_road_checks_size s_road_checks_cells s_road_looks_size s_road_looks_cells s_trial_high s_trial_low s_trial_passers_size s_trial_passers_cells s_trial_beasts_size s_trial_beasts_cells s_trial_checks_size s_trial_checks_cells s_trial_looks_size s_trial_looks_cells s_text_length s_text_place s_text_next s_text_bytes s_text_items_size s_text_items_cells s_hiring_men s_hiring_goal s_hiring_goalMen s_hiring_fewest s_hiring_gains s_spread_now s_spread_later s_choices s_ends s_laterEnds s1_above s1_below s1_typed s1_at s1_start s1_sort s1_value s1_fault s1_itemsMany s1_goneHeight s1_goneDid s1_now s1_isKept s1_refused s1_text s1_items s1_did s1_fewest s1_chosen s1_ends s1_rows s1_ways s1_then o0 o1 v1 v2 v3 v4 hR
  obtain ⟨hRd, hI0, hI1, hT, hab, hbe, hb, hn, hfu⟩ := hR
  unfold pL_10 pX11_does pX12_does pX11_badAs
  obtain ⟨h, lo, np, nb, nc, nl, P, B, C, L, hok, hx, hm⟩ := id hRd
  obtain ⟨x1, x2, x3, x4, x5, x6, x7, x8, x9, x10⟩ := id hx
  obtain ⟨m1, m2, m3, m4, m5, m6, m7, m8, m9, m10⟩ := id hm
  dsimp only at x1 x2 x3 x4 x5 x6 x7 x8 x9 x10
  have hP := hok.2.2.1
  have n1 := hP.1
  subst x1 x2 x3 x5 x7 x9
  obtain ⟨y1, rfl, hz1⟩ := zI_ex v1
  refine x_has (by omega) hz1 (fun g => br1 ?_) (fun g => br0 ?_)
  · obtain ⟨p, rfl⟩ : ∃ p : Nat, y1 = (p : Int) := ⟨y1.toNat, by omega⟩
    have b := wk_b P (p + 1) 0 h 0 hok.1 (by omega)
    have e1 : zI (p : Int) + 1 = zI ((0 + (p + 1) : Nat) : Int) := by ((try simp only [zI_lit, zI_neg, zI_add, zI_sub, zI_mul, zI_n]) <;> (first | rfl | (refine zI_eqI ?_; omega)))
    have e3 : (zI (p : Int)).toNatClampNeg = p := by ((try simp only [zI_lit, zI_neg, zI_add, zI_sub, zI_mul, zI_n]); rw [zI_clamp (by omega)]; omega)
    refine x_first (x_wE x4 hP (p + 1) 0 rfl e1 (by omega) hok.1 (by omega) (x_didOf b.1 b.2 ?_))
    refine m_isP m3 (by omega) hz1 (fun _ => br1 (m_hin99 m1 m3 m7 hP hok.1 (fun D' hD => ⟨by ((try simp only [zI_lit, zI_neg, zI_add, zI_sub, zI_mul, zI_n]); rw [zI_in (by omega)]; omega), ?_⟩))) (fun g' => absurd g g')
    rw [e3, hD p (by omega)]
    exact ⟨fun _ => ⟨hRd, hI0, hI1, hT, hab, hbe, hb, hn, hfu⟩, fun z => z rfl⟩
  · refine m_isP m3 (by omega) hz1 (fun g' => absurd g' g) (fun _ => br0 ((m_bad _ _).mpr ?_))
    exact ⟨fun _ => ⟨hRd, hI0, hI1, hT, hab, hbe, by rw [upd_s, hb], (upd_n _ _ (by omega)).trans hn, (upd_n _ _ (by omega)).trans hfu⟩, fun z => z rfl⟩
theorem x_b {nb n : Nat} {cells : Nat → Int32} {B : Nat → Nat → Int} (h : rowsIn 2 nb 0 cells B) (hn : 2 * nb ≤ n) (hn2 : n < 1000) {p : Nat} (hp : p < nb) {cI : Int32} (c : Nat) (ec : cI = zI c) (hc : c < 2) {k : Int32 → Prop} (hk : k (zI (B p c))) : pX7_at n 2 cells (zI p) cI k := by
  rw [ec, z2, x_at2 h hn hn2 hp hc]; exact hk
theorem m_over {np nb : Nat} {N R D : Nat → Int32} {P B : Nat → Nat → Int} {h a : Int} (e0 : N 0 = zI h) (e2 : N 2 = zI np) (e3 : N 3 = zI nb) (hx : rowsIn 6 np (0 + 6) N P) (hP : okP np P) (hb : rowsIn 2 nb (0 + 78) N B) (hB : okB nb B) (hh : 0 ≤ h ∧ h ≤ 30) (ra : (-2147483648 ≤ a ∧ a < 2147483648)) {K : Int32 → (Nat → Int32) → (Nat → Int32) → Prop} (h0 : ¬ (0 ≤ a ∧ a < nb) → K (-2) (upd R 0 (R 0 + 1)) D) (h1 : 0 ≤ a ∧ a < nb → ∀ D', K (if B a.toNat 1 < (wk P (cn P (B a.toNat 0) np) 0 h 0).1 then 0 else 1) R D') : pX12_over N R D (zI a) K := by
  have h12 := hP.1
  have n2 := hB.1
  have el : zI (nb : Int) - 1 = zI ((nb : Int) - 1) := by ((try simp only [zI_lit, zI_neg, zI_add, zI_sub, zI_mul, zI_n]) <;> (first | rfl | (refine zI_eqI ?_; omega)))
  unfold pX12_over
  rw [c3, e3]
  refine m_wi (b := 0) (c := (nb : Int) - 1) rfl el ra (by omega) (by omega) (fun g => br1 ?_) (fun g => br0 ((m_bad _ _).mpr (h0 (by omega))))
  obtain ⟨p, rfl⟩ : ∃ p : Nat, a = (p : Int) := ⟨a.toNat, by omega⟩
  have hv := h1 (by omega)
  rw [Int.toNat_natCast] at hv
  obtain ⟨o1, o2⟩ := hB.2 p (by omega)
  have b := wk_b P (cn P (B p 0) np) 0 h 0 hh (by omega)
  have i0 : ((78 : Int32) + 2 * zI (p : Int)).toNatClampNeg = 0 + 78 + 2 * p + 0 := by ((try simp only [zI_lit, zI_neg, zI_add, zI_sub, zI_mul, zI_n]); rw [zI_clamp (by omega)]; omega)
  have i1 : ((78 : Int32) + 2 * zI (p : Int) + 1).toNatClampNeg = 0 + 78 + 2 * p + 1 := by ((try simp only [zI_lit, zI_neg, zI_add, zI_sub, zI_mul, zI_n]); rw [zI_clamp (by omega)]; omega)
  rw [i0, i1, hb p 0 (by omega) (by omega), hb p 1 (by omega) (by omega)]
  refine ⟨by ((try simp only [zI_lit, zI_neg, zI_add, zI_sub, zI_mul, zI_n]); rw [zI_in (by omega)]; omega), m_hin e0 e2 hx hP hh rfl (by omega) (fun D' _ => ⟨by ((try simp only [zI_lit, zI_neg, zI_add, zI_sub, zI_mul, zI_n]); rw [zI_in (by omega)]; omega), ?_⟩)⟩
  have hv2 := hv D'
  by_cases q : B p 1 < (wk P (cn P (B p 0) np) 0 h 0).1
  · rw [if_pos q] at hv2
    exact brT (by ((try simp only [zI_lit, zI_neg, zI_add, zI_sub, zI_mul, zI_n, ne_eq]) <;> (first | rw [zI_lt (by omega) (by omega)] | rw [zI_le (by omega) (by omega)] | rw [zI_eq (by omega) (by omega)]); try omega)) hv2
  · rw [if_neg q] at hv2
    exact brF (by ((try simp only [zI_lit, zI_neg, zI_add, zI_sub, zI_mul, zI_n, ne_eq]) <;> (first | rw [zI_lt (by omega) (by omega)] | rw [zI_le (by omega) (by omega)] | rw [zI_eq (by omega) (by omega)]); try omega)) hv2
set_option maxHeartbeats 4000000 in
theorem st_11 : ∀ (s_above : Int64) (s_below : Int64) (s_badCalls : Int32) (s_noCalls : Int32) (s_fullCalls : Int32) (s_road_high : Int32) (s_road_low : Int32) (s_road_passers_size : Int32) (s_road_passers_cells : Nat → Int32) (s_road_beasts_size : Int32) (s_road_beasts_cells : Nat → Int32) (s_road_checks_size : Int32) (s_road_checks_cells : Nat → Int32) (s_road_looks_size : Int32) (s_road_looks_cells : Nat → Int32) (s_trial_high : Int32) (s_trial_low : Int32) (s_trial_passers_size : Int32) (s_trial_passers_cells : Nat → Int32) (s_trial_beasts_size : Int32) (s_trial_beasts_cells : Nat → Int32) (s_trial_checks_size : Int32) (s_trial_checks_cells : Nat → Int32) (s_trial_looks_size : Int32) (s_trial_looks_cells : Nat → Int32) (s_text_length : Int32) (s_text_place : Int32) (s_text_next : Int32) (s_text_bytes : Nat → Int32) (s_text_items_size : Int32) (s_text_items_cells : Nat → Int32) (s_hiring_men : Int32) (s_hiring_goal : Int32) (s_hiring_goalMen : Int32) (s_hiring_fewest : Nat → Int32) (s_hiring_gains : Nat → Int32) (s_spread_now : Nat → Int64) (s_spread_later : Nat → Int64) (s_choices : Nat → Int32) (s_ends : Nat → Int32) (s_laterEnds : Nat → Int32) (s1_above : Int64) (s1_below : Int64) (s1_typed : Int32) (s1_at : Int32) (s1_start : Int32) (s1_sort : Int32) (s1_value : Int32) (s1_fault : Int32) (s1_itemsMany : Int32) (s1_goneHeight : Int32) (s1_goneDid : Int32) (s1_now : Nat → Int32) (s1_isKept : Nat → Int32) (s1_refused : Nat → Int32) (s1_text : Nat → Int32) (s1_items : Nat → Int32) (s1_did : Nat → Int32) (s1_fewest : Nat → Int32) (s1_chosen : Nat → Int32) (s1_ends : Nat → Int32) (s1_rows : Nat → Int32) (s1_ways : Nat → Int64) (s1_then : Nat → Int64) (o0 : Option RD) (o1 : Option RD) (v1 v2 v3 v4 : Int32), RelS s_above s_below s_badCalls s_noCalls s_fullCalls s_road_high s_road_low s_road_passers_size s_road_passers_cells s_road_beasts_size s_road_beasts_cells s_road_checks_size s_road_checks_cells s_road_looks_size s_road_looks_cells s_trial_high s_trial_low s_trial_passers_size s_trial_passers_cells s_trial_beasts_size s_trial_beasts_cells s_trial_checks_size s_trial_checks_cells s_trial_looks_size s_trial_looks_cells s_text_length s_text_place s_text_next s_text_bytes s_text_items_size s_text_items_cells s_hiring_men s_hiring_goal s_hiring_goalMen s_hiring_fewest s_hiring_gains s_spread_now s_spread_later s_choices s_ends s_laterEnds s1_above s1_below s1_typed s1_at s1_start s1_sort s1_value s1_fault s1_itemsMany s1_goneHeight s1_goneDid s1_now s1_isKept s1_refused s1_text s1_items s1_did s1_fewest s1_chosen s1_ends s1_rows s1_ways s1_then o0 o1 → pL_11 RelS s_above s_below s_badCalls s_noCalls s_fullCalls s_road_high s_road_low s_road_passers_size s_road_passers_cells s_road_beasts_size s_road_beasts_cells s_road_checks_size s_road_checks_cells s_road_looks_size s_road_looks_cells s_trial_high s_trial_low s_trial_passers_size s_trial_passers_cells s_trial_beasts_size s_trial_beasts_cells s_trial_checks_size s_trial_checks_cells s_trial_looks_size s_trial_looks_cells s_text_length s_text_place s_text_next s_text_bytes s_text_items_size s_text_items_cells s_hiring_men s_hiring_goal s_hiring_goalMen s_hiring_fewest s_hiring_gains s_spread_now s_spread_later s_choices s_ends s_laterEnds s1_above s1_below s1_typed s1_at s1_start s1_sort s1_value s1_fault s1_itemsMany s1_goneHeight s1_goneDid s1_now s1_isKept s1_refused s1_text s1_items s1_did s1_fewest s1_chosen s1_ends s1_rows s1_ways s1_then o0 o1 v1 v2 v3 v4 := by
  intro s_above s_below s_badCalls s_noCalls s_fullCalls s_road_high s_road_low s_road_passers_size s_road_passers_cells s_road_beasts_size s_road_beasts_cells s_road_checks_size s_road_checks_cells s_road_looks_size s_road_looks_cells s_trial_high s_trial_low s_trial_passers_size s_trial_passers_cells s_trial_beasts_size s_trial_beasts_cells s_trial_checks_size s_trial_checks_cells s_trial_looks_size s_trial_looks_cells s_text_length s_text_place s_text_next s_text_bytes s_text_items_size s_text_items_cells s_hiring_men s_hiring_goal s_hiring_goalMen s_hiring_fewest s_hiring_gains s_spread_now s_spread_later s_choices s_ends s_laterEnds s1_above s1_below s1_typed s1_at s1_start s1_sort s1_value s1_fault s1_itemsMany s1_goneHeight s1_goneDid s1_now s1_isKept s1_refused s1_text s1_items s1_did s1_fewest s1_chosen s1_ends s1_rows s1_ways s1_then o0 o1 v1 v2 v3 v4 hR
  obtain ⟨hRd, hI0, hI1, hT, hab, hbe, hb, hn, hfu⟩ := hR
  unfold pL_11 pX11_over
  obtain ⟨h, lo, np, nb, nc, nl, P, B, C, L, hok, hx, hm⟩ := id hRd
  obtain ⟨x1, x2, x3, x4, x5, x6, x7, x8, x9, x10⟩ := id hx
  obtain ⟨m1, m2, m3, m4, m5, m6, m7, m8, m9, m10⟩ := id hm
  dsimp only at x1 x2 x3 x4 x5 x6 x7 x8 x9 x10
  have hP := hok.2.2.1
  have n1 := hP.1
  subst x1 x2 x3 x5 x7 x9
  have hB := hok.2.2.2.1
  have n2 := hB.1
  obtain ⟨y1, rfl, hz1⟩ := zI_ex v1
  refine x_has (by omega) hz1 (fun g => br1 ?_) (fun g => br0 ((x_counted_bad _ _ _ _).mpr ?_))
  · have hm : ∀ K : Int32 → (Nat → Int32) → (Nat → Int32) → Prop, (∀ D', K (if B y1.toNat 1 < (wk P (cn P (B y1.toNat 0) np) 0 h 0).1 then 0 else 1) s1_refused D') → pX12_over s1_now s1_refused s1_did (zI y1) K := fun K hK => m_over m1 m3 m4 m7 hP m8 hB hok.1 hz1 (fun g' => absurd g g') (fun _ => hK)
    obtain ⟨p, rfl⟩ : ∃ p : Nat, y1 = (p : Int) := ⟨y1.toNat, by omega⟩
    rw [Int.toNat_natCast] at hm
    obtain ⟨o1, o2⟩ := hB.2 p (by omega)
    have b := wk_b P (cn P (B p 0) np) 0 h 0 hok.1 (by omega)
    refine x_b x6 (by omega) (by omega) (by omega) 0 rfl (by omega) (x_highIn x4 hP (by omega) hok.1 (x_b x6 (by omega) (by omega) (by omega) 1 rfl (by omega) ?_))
    by_cases q : B p 1 < (wk P (cn P (B p 0) np) 0 h 0).1
    · refine brT (by ((try simp only [zI_lit, zI_neg, zI_add, zI_sub, zI_mul, zI_n, ne_eq]) <;> (first | rw [zI_lt (by omega) (by omega)] | rw [zI_le (by omega) (by omega)] | rw [zI_eq (by omega) (by omega)]); try omega)) (hm _ (fun D' => ?_))
      rw [if_pos q]
      exact ⟨fun _ => ⟨hRd, hI0, hI1, hT, hab, hbe, hb, hn, hfu⟩, fun z => z rfl⟩
    · refine brF (by ((try simp only [zI_lit, zI_neg, zI_add, zI_sub, zI_mul, zI_n, ne_eq]) <;> (first | rw [zI_lt (by omega) (by omega)] | rw [zI_le (by omega) (by omega)] | rw [zI_eq (by omega) (by omega)]); try omega)) (hm _ (fun D' => ?_))
      rw [if_neg q]
      exact ⟨fun _ => ⟨hRd, hI0, hI1, hT, hab, hbe, hb, hn, hfu⟩, fun z => z rfl⟩
  · refine m_over m1 m3 m4 m7 hP m8 hB hok.1 hz1 (fun _ => ?_) (fun g' => absurd g' g)
    exact ⟨fun _ => ⟨hRd, hI0, hI1, hT, hab, hbe, by rw [upd_s, hb], (upd_n _ _ (by omega)).trans hn, (upd_n _ _ (by omega)).trans hfu⟩, fun z => z rfl⟩
/-! when the coach gets through -/
def thr (P : Nat → Nat → Int) (h lo : Int) : Nat → Nat → Int
  | 0, _ => -1
  | j + 1, i => if (wk P (i + 1) 0 h 0).1 ≤ lo then (i : Int) else thr P h lo j (i + 1)
theorem x_thr30 {np : Nat} {cells : Nat → Int32} {P : Nat → Nat → Int} {h lo : Int} (hx : rowsIn 6 np 0 cells P) (hP : okP np P) (hh : 0 ≤ h ∧ h ≤ 30) (hl : 0 ≤ lo ∧ lo ≤ 30) {k : Int32 → Prop} : ∀ (j i : Nat), i + j = np → k (zI (thr P h lo j i)) → pX11_through_30 (zI lo) (zI np) cells k (k (-1)) (j + 1) (zI (sd (wk P i 0 h 0).1 (wk P i 0 h 0).2)) (zI i)
  | 0, i, hi, hk => by
    have h12 := hP.1
    exact brT (by ((try simp only [zI_lit, zI_neg, zI_add, zI_sub, zI_mul, zI_n, ne_eq]) <;> (first | rw [zI_lt (by omega) (by omega)] | rw [zI_le (by omega) (by omega)] | rw [zI_eq (by omega) (by omega)]); try omega)) hk
  | j + 1, i, hi, hk => by
    have h12 := hP.1
    have b := wk_b P i 0 h 0 hh (by omega)
    have b2 := wk_b P (i + 1) 0 h 0 hh (by omega)
    have e1 : zI (i : Int) + 1 = zI ((i + 1 : Nat) : Int) := by ((try simp only [zI_lit, zI_neg, zI_add, zI_sub, zI_mul, zI_n]) <;> (first | rfl | (refine zI_eqI ?_; omega)))
    have e2 : wk P 1 i (wk P i 0 h 0).1 (wk P i 0 h 0).2 = wk P (i + 1) 0 h 0 := by
      have q := wk_add P i 1 0 h 0
      rw [Nat.zero_add] at q
      exact q.symm
    refine brF (by ((try simp only [zI_lit, zI_neg, zI_add, zI_sub, zI_mul, zI_n, ne_eq]) <;> (first | rw [zI_lt (by omega) (by omega)] | rw [zI_le (by omega) (by omega)] | rw [zI_eq (by omega) (by omega)]); try omega)) (x_wE hx hP 1 i rfl e1 (by omega) b.1 b.2 ?_)
    rw [e2]
    refine x_highOf b2.1 b2.2 ?_
    unfold thr at hk
    by_cases g : (wk P (i + 1) 0 h 0).1 ≤ lo
    · rw [if_pos g] at hk
      exact brF (by ((try simp only [zI_lit, zI_neg, zI_add, zI_sub, zI_mul, zI_n, ne_eq]) <;> (first | rw [zI_lt (by omega) (by omega)] | rw [zI_le (by omega) (by omega)] | rw [zI_eq (by omega) (by omega)]); try omega)) hk
    · rw [if_neg g] at hk
      refine brT (by ((try simp only [zI_lit, zI_neg, zI_add, zI_sub, zI_mul, zI_n, ne_eq]) <;> (first | rw [zI_lt (by omega) (by omega)] | rw [zI_le (by omega) (by omega)] | rw [zI_eq (by omega) (by omega)]); try omega)) ?_
      rw [e1]
      exact x_thr30 hx hP hh hl j (i + 1) (by omega) hk
theorem m_thr29 {np : Nat} {N : Nat → Int32} {P : Nat → Nat → Int} {h lo : Int} (e1 : N 1 = zI lo) (e2 : N 2 = zI np) (hP : okP np P) (hh : 0 ≤ h ∧ h ≤ 30) (hl : 0 ≤ lo ∧ lo ≤ 30) {D : Nat → Int32} (hD : ∀ q, q < np → D q = zI (wk P (q + 1) 0 h 0).2) {k : Int32 → (Nat → Int32) → Prop} : ∀ (j i : Nat), i + j = np → k (zI (thr P h lo j i)) D → pX12_through_29 N k (fun D' => k (-1) D') (j + 1) (zI (wk P i 0 h 0).1) (zI i) D
  | 0, i, hi, hk => by
    have h12 := hP.1
    exact brT (by rw [c2, e2]; ((try simp only [zI_lit, zI_neg, zI_add, zI_sub, zI_mul, zI_n, ne_eq]) <;> (first | rw [zI_lt (by omega) (by omega)] | rw [zI_le (by omega) (by omega)] | rw [zI_eq (by omega) (by omega)]); try omega)) hk
  | j + 1, i, hi, hk => by
    have h12 := hP.1
    have b := wk_b P i 0 h 0 hh (by omega)
    have b2 := wk_b P (i + 1) 0 h 0 hh (by omega)
    have ei : zI (i : Int) + 1 = zI ((i + 1 : Nat) : Int) := by ((try simp only [zI_lit, zI_neg, zI_add, zI_sub, zI_mul, zI_n]) <;> (first | rfl | (refine zI_eqI ?_; omega)))
    have e3 : (zI (i : Int)).toNatClampNeg = i := by ((try simp only [zI_lit, zI_neg, zI_add, zI_sub, zI_mul, zI_n]); rw [zI_clamp (by omega)]; omega)
    have ws := wk_s P i 0 h 0
    rw [Nat.zero_add] at ws
    have e4 : zI (wk P i 0 h 0).1 + zI (wk P (i + 1) 0 h 0).2 = zI (wk P (i + 1) 0 h 0).1 := by rw [zI_add, ws]
    refine brF (by rw [c2, e2]; ((try simp only [zI_lit, zI_neg, zI_add, zI_sub, zI_mul, zI_n, ne_eq]) <;> (first | rw [zI_lt (by omega) (by omega)] | rw [zI_le (by omega) (by omega)] | rw [zI_eq (by omega) (by omega)]); try omega)) ⟨by ((try simp only [zI_lit, zI_neg, zI_add, zI_sub, zI_mul, zI_n]); rw [zI_in (by omega)]; omega), ?_⟩
    rw [e3, hD i (by omega), e4, c1, e1]
    unfold thr at hk
    by_cases g : (wk P (i + 1) 0 h 0).1 ≤ lo
    · rw [if_pos g] at hk
      exact brF (by ((try simp only [zI_lit, zI_neg, zI_add, zI_sub, zI_mul, zI_n, ne_eq]) <;> (first | rw [zI_lt (by omega) (by omega)] | rw [zI_le (by omega) (by omega)] | rw [zI_eq (by omega) (by omega)]); try omega)) hk
    · rw [if_neg g] at hk
      refine brT (by ((try simp only [zI_lit, zI_neg, zI_add, zI_sub, zI_mul, zI_n, ne_eq]) <;> (first | rw [zI_lt (by omega) (by omega)] | rw [zI_le (by omega) (by omega)] | rw [zI_eq (by omega) (by omega)]); try omega)) ?_
      rw [ei]
      exact m_thr29 e1 e2 hP hh hl hD j (i + 1) (by omega) hk
set_option maxHeartbeats 4000000 in
theorem st_12 : ∀ (s_above : Int64) (s_below : Int64) (s_badCalls : Int32) (s_noCalls : Int32) (s_fullCalls : Int32) (s_road_high : Int32) (s_road_low : Int32) (s_road_passers_size : Int32) (s_road_passers_cells : Nat → Int32) (s_road_beasts_size : Int32) (s_road_beasts_cells : Nat → Int32) (s_road_checks_size : Int32) (s_road_checks_cells : Nat → Int32) (s_road_looks_size : Int32) (s_road_looks_cells : Nat → Int32) (s_trial_high : Int32) (s_trial_low : Int32) (s_trial_passers_size : Int32) (s_trial_passers_cells : Nat → Int32) (s_trial_beasts_size : Int32) (s_trial_beasts_cells : Nat → Int32) (s_trial_checks_size : Int32) (s_trial_checks_cells : Nat → Int32) (s_trial_looks_size : Int32) (s_trial_looks_cells : Nat → Int32) (s_text_length : Int32) (s_text_place : Int32) (s_text_next : Int32) (s_text_bytes : Nat → Int32) (s_text_items_size : Int32) (s_text_items_cells : Nat → Int32) (s_hiring_men : Int32) (s_hiring_goal : Int32) (s_hiring_goalMen : Int32) (s_hiring_fewest : Nat → Int32) (s_hiring_gains : Nat → Int32) (s_spread_now : Nat → Int64) (s_spread_later : Nat → Int64) (s_choices : Nat → Int32) (s_ends : Nat → Int32) (s_laterEnds : Nat → Int32) (s1_above : Int64) (s1_below : Int64) (s1_typed : Int32) (s1_at : Int32) (s1_start : Int32) (s1_sort : Int32) (s1_value : Int32) (s1_fault : Int32) (s1_itemsMany : Int32) (s1_goneHeight : Int32) (s1_goneDid : Int32) (s1_now : Nat → Int32) (s1_isKept : Nat → Int32) (s1_refused : Nat → Int32) (s1_text : Nat → Int32) (s1_items : Nat → Int32) (s1_did : Nat → Int32) (s1_fewest : Nat → Int32) (s1_chosen : Nat → Int32) (s1_ends : Nat → Int32) (s1_rows : Nat → Int32) (s1_ways : Nat → Int64) (s1_then : Nat → Int64) (o0 : Option RD) (o1 : Option RD) (v1 v2 v3 v4 : Int32), RelS s_above s_below s_badCalls s_noCalls s_fullCalls s_road_high s_road_low s_road_passers_size s_road_passers_cells s_road_beasts_size s_road_beasts_cells s_road_checks_size s_road_checks_cells s_road_looks_size s_road_looks_cells s_trial_high s_trial_low s_trial_passers_size s_trial_passers_cells s_trial_beasts_size s_trial_beasts_cells s_trial_checks_size s_trial_checks_cells s_trial_looks_size s_trial_looks_cells s_text_length s_text_place s_text_next s_text_bytes s_text_items_size s_text_items_cells s_hiring_men s_hiring_goal s_hiring_goalMen s_hiring_fewest s_hiring_gains s_spread_now s_spread_later s_choices s_ends s_laterEnds s1_above s1_below s1_typed s1_at s1_start s1_sort s1_value s1_fault s1_itemsMany s1_goneHeight s1_goneDid s1_now s1_isKept s1_refused s1_text s1_items s1_did s1_fewest s1_chosen s1_ends s1_rows s1_ways s1_then o0 o1 → pL_12 RelS s_above s_below s_badCalls s_noCalls s_fullCalls s_road_high s_road_low s_road_passers_size s_road_passers_cells s_road_beasts_size s_road_beasts_cells s_road_checks_size s_road_checks_cells s_road_looks_size s_road_looks_cells s_trial_high s_trial_low s_trial_passers_size s_trial_passers_cells s_trial_beasts_size s_trial_beasts_cells s_trial_checks_size s_trial_checks_cells s_trial_looks_size s_trial_looks_cells s_text_length s_text_place s_text_next s_text_bytes s_text_items_size s_text_items_cells s_hiring_men s_hiring_goal s_hiring_goalMen s_hiring_fewest s_hiring_gains s_spread_now s_spread_later s_choices s_ends s_laterEnds s1_above s1_below s1_typed s1_at s1_start s1_sort s1_value s1_fault s1_itemsMany s1_goneHeight s1_goneDid s1_now s1_isKept s1_refused s1_text s1_items s1_did s1_fewest s1_chosen s1_ends s1_rows s1_ways s1_then o0 o1 v1 v2 v3 v4 := by
  intro s_above s_below s_badCalls s_noCalls s_fullCalls s_road_high s_road_low s_road_passers_size s_road_passers_cells s_road_beasts_size s_road_beasts_cells s_road_checks_size s_road_checks_cells s_road_looks_size s_road_looks_cells s_trial_high s_trial_low s_trial_passers_size s_trial_passers_cells s_trial_beasts_size s_trial_beasts_cells s_trial_checks_size s_trial_checks_cells s_trial_looks_size s_trial_looks_cells s_text_length s_text_place s_text_next s_text_bytes s_text_items_size s_text_items_cells s_hiring_men s_hiring_goal s_hiring_goalMen s_hiring_fewest s_hiring_gains s_spread_now s_spread_later s_choices s_ends s_laterEnds s1_above s1_below s1_typed s1_at s1_start s1_sort s1_value s1_fault s1_itemsMany s1_goneHeight s1_goneDid s1_now s1_isKept s1_refused s1_text s1_items s1_did s1_fewest s1_chosen s1_ends s1_rows s1_ways s1_then o0 o1 v1 v2 v3 v4 hR
  obtain ⟨hRd, hI0, hI1, hT, hab, hbe, hb, hn, hfu⟩ := hR
  unfold pL_12 pX11_through pX12_through
  obtain ⟨h, lo, np, nb, nc, nl, P, B, C, L, hok, hx, hm⟩ := id hRd
  obtain ⟨x1, x2, x3, x4, x5, x6, x7, x8, x9, x10⟩ := id hx
  obtain ⟨m1, m2, m3, m4, m5, m6, m7, m8, m9, m10⟩ := id hm
  dsimp only at x1 x2 x3 x4 x5 x6 x7 x8 x9 x10
  have hP := hok.2.2.1
  have n1 := hP.1
  subst x1 x2 x3 x5 x7 x9
  have hh := hok.1
  have hl := hok.2.1
  have d0 : s1_now 0 = zI h := m1
  have d1 : s1_now 1 = zI lo := m2
  rw [c0, c1, d0, d1]
  by_cases g : lo < h
  · refine brT (by ((try simp only [zI_lit, zI_neg, zI_add, zI_sub, zI_mul, zI_n, ne_eq]) <;> (first | rw [zI_lt (by omega) (by omega)] | rw [zI_le (by omega) (by omega)] | rw [zI_eq (by omega) (by omega)]); try omega)) (x_first ⟨np + 1, x_thr30 x4 hP hh hl np 0 (by omega) ?_⟩)
    refine brT (by ((try simp only [zI_lit, zI_neg, zI_add, zI_sub, zI_mul, zI_n, ne_eq]) <;> (first | rw [zI_lt (by omega) (by omega)] | rw [zI_le (by omega) (by omega)] | rw [zI_eq (by omega) (by omega)]); try omega)) (m_hin99 m1 m3 m7 hP hok.1 (fun D' hD => ⟨np + 1, m_thr29 d1 m3 hP hh hl hD np 0 (by omega) ?_⟩))
    exact ⟨fun _ => ⟨hRd, hI0, hI1, hT, hab, hbe, hb, hn, hfu⟩, fun z => z rfl⟩
  · refine brF (by ((try simp only [zI_lit, zI_neg, zI_add, zI_sub, zI_mul, zI_n, ne_eq]) <;> (first | rw [zI_lt (by omega) (by omega)] | rw [zI_le (by omega) (by omega)] | rw [zI_eq (by omega) (by omega)]); try omega)) (brF (by ((try simp only [zI_lit, zI_neg, zI_add, zI_sub, zI_mul, zI_n, ne_eq]) <;> (first | rw [zI_lt (by omega) (by omega)] | rw [zI_le (by omega) (by omega)] | rw [zI_eq (by omega) (by omega)]); try omega)) ?_)
    exact ⟨fun _ => ⟨hRd, hI0, hI1, hT, hab, hbe, hb, hn, hfu⟩, fun z => z rfl⟩
/-! two walls -/
def bh (P : Nat → Nat → Int) : Nat → Nat → Int → Int → Int → Int × Int
  | 0, _, f, s, _ => (f, s)
  | n + 1, i, f, s, d => bh P n (i + 1) (f + (if 0 < dd (P i) f d ∧ s = 0 then 0 else dd (P i) f d)) (if 30 < s - (if 0 < dd (P i) f d ∧ s = 0 then 0 else dd (P i) f d) then 30 else s - (if 0 < dd (P i) f d ∧ s = 0 then 0 else dd (P i) f d)) (if 0 < dd (P i) f d ∧ s = 0 then 0 else dd (P i) f d)
theorem x_beh40 {np : Nat} {cells : Nat → Int32} {P : Nat → Nat → Int} (hx : rowsIn 6 np 0 cells P) (hP : okP np P) {w b n fu : Int32} {kx : Int32 → Int32 → Int32 → Int32 → Int32 → Int32 → Prop} : ∀ (j i : Nat) (f s d : Int), i + j = np → 0 ≤ f ∧ f ≤ 30 → 0 ≤ s ∧ s ≤ 30 → -2 ≤ d ∧ d ≤ 1 → kx w (zI (bh P j i f s d).1) (zI (bh P j i f s d).2) b n fu → pX11_behind_40 (zI np) cells kx (j + 1) w (zI f) (zI s) (zI d) (zI i) b n fu
  | 0, i, f, s, d, hi, hf, hs, hd, hk => by
    have h12 := hP.1
    exact brT (by ((try simp only [zI_lit, zI_neg, zI_add, zI_sub, zI_mul, zI_n, ne_eq]) <;> (first | rw [zI_lt (by omega) (by omega)] | rw [zI_le (by omega) (by omega)] | rw [zI_eq (by omega) (by omega)]); try omega)) hk
  | j + 1, i, f, s, d, hi, hf, hs, hd, hk => by
    have h12 := hP.1
    have e1 : zI (i : Int) + 1 = zI ((i + 1 : Nat) : Int) := by ((try simp only [zI_lit, zI_neg, zI_add, zI_sub, zI_mul, zI_n]) <;> (first | rfl | (refine zI_eqI ?_; omega)))
    have b1 := @dd_b (P i) f d hf
    have main : ∀ e : Int, e = (if 0 < dd (P i) f d ∧ s = 0 then 0 else dd (P i) f d) → pX11_behind_82 (pX11_behind_40 (zI np) cells kx (j + 1)) w (zI f) (zI s) (zI e) (zI i) b n fu := fun e he => by
      unfold bh at hk
      rw [← he] at hk
      have b2 : (-2 ≤ e ∧ e ≤ 1) ∧ (0 ≤ f + e ∧ f + e ≤ 30) ∧ 0 ≤ s - e := by
        rw [he]; split <;> omega
      have em : mmin 30 (zI s - zI e) = zI (if 30 < s - e then 30 else s - e) := by
        rw [zI_sub, show (30 : Int32) = zI 30 from rfl, zI_min (by omega) (by omega)]
        refine zI_eqI ?_
        repeat' split
        all_goals omega
      unfold pX11_behind_82
      rw [e1, zI_add, em]
      exact x_beh40 hx hP j (i + 1) _ _ _ (by omega) b2.2.1 (by split <;> omega) b2.1 hk
    refine brF (by ((try simp only [zI_lit, zI_neg, zI_add, zI_sub, zI_mul, zI_n, ne_eq]) <;> (first | rw [zI_lt (by omega) (by omega)] | rw [zI_le (by omega) (by omega)] | rw [zI_eq (by omega) (by omega)]); try omega)) (x_deed hx hP (by omega) hf hd ?_)
    by_cases g : 0 < dd (P i) f d
    · refine brF (by ((try simp only [zI_lit, zI_neg, zI_add, zI_sub, zI_mul, zI_n, ne_eq]) <;> (first | rw [zI_lt (by omega) (by omega)] | rw [zI_le (by omega) (by omega)] | rw [zI_eq (by omega) (by omega)]); try omega)) ?_
      by_cases g2 : s = 0
      · exact brT (by ((try simp only [zI_lit, zI_neg, zI_add, zI_sub, zI_mul, zI_n, ne_eq]) <;> (first | rw [zI_lt (by omega) (by omega)] | rw [zI_le (by omega) (by omega)] | rw [zI_eq (by omega) (by omega)]); try omega)) (main 0 (by rw [if_pos ⟨g, g2⟩]))
      · exact brF (by ((try simp only [zI_lit, zI_neg, zI_add, zI_sub, zI_mul, zI_n, ne_eq]) <;> (first | rw [zI_lt (by omega) (by omega)] | rw [zI_le (by omega) (by omega)] | rw [zI_eq (by omega) (by omega)]); try omega)) (main _ (by rw [if_neg (fun z => g2 z.2)]))
    · exact brT (by ((try simp only [zI_lit, zI_neg, zI_add, zI_sub, zI_mul, zI_n, ne_eq]) <;> (first | rw [zI_lt (by omega) (by omega)] | rw [zI_le (by omega) (by omega)] | rw [zI_eq (by omega) (by omega)]); try omega)) (main _ (by rw [if_neg (fun z => g z.1)]))
theorem m_beh40 {np : Nat} {N R : Nat → Int32} {P : Nat → Nat → Int} (e2 : N 2 = zI np) (hx : rowsIn 6 np (0 + 6) N P) (hP : okP np P) {w : Int32} {kx : Int32 → Int32 → Int32 → (Nat → Int32) → Prop} : ∀ (j i : Nat) (f s d : Int), i + j = np → 0 ≤ f ∧ f ≤ 30 → 0 ≤ s ∧ s ≤ 30 → -2 ≤ d ∧ d ≤ 1 → kx w (zI (bh P j i f s d).1) (zI (bh P j i f s d).2) R → pX12_behind_40 N kx (j + 1) w (zI f) (zI s) (zI d) (zI i) R
  | 0, i, f, s, d, hi, hf, hs, hd, hk => by
    have h12 := hP.1
    exact brT (by rw [c2, e2]; ((try simp only [zI_lit, zI_neg, zI_add, zI_sub, zI_mul, zI_n, ne_eq]) <;> (first | rw [zI_lt (by omega) (by omega)] | rw [zI_le (by omega) (by omega)] | rw [zI_eq (by omega) (by omega)]); try omega)) hk
  | j + 1, i, f, s, d, hi, hf, hs, hd, hk => by
    have h12 := hP.1
    have e1 : zI (i : Int) + 1 = zI ((i + 1 : Nat) : Int) := by ((try simp only [zI_lit, zI_neg, zI_add, zI_sub, zI_mul, zI_n]) <;> (first | rfl | (refine zI_eqI ?_; omega)))
    have b1 := @dd_b (P i) f d hf
    have main : ∀ e : Int, e = (if 0 < dd (P i) f d ∧ s = 0 then 0 else dd (P i) f d) → pX12_behind_78 (pX12_behind_40 N kx (j + 1)) w (zI f) (zI s) (zI i) (zI e) R := fun e he => by
      unfold bh at hk
      rw [← he] at hk
      have b2 : (-2 ≤ e ∧ e ≤ 1) ∧ (0 ≤ f + e ∧ f + e ≤ 30) ∧ 0 ≤ s - e := by
        rw [he]; split <;> omega
      unfold pX12_behind_78
      rw [e1, zI_add, zI_sub]
      by_cases g : s - e ≤ 30
      · refine brT (by ((try simp only [zI_lit, zI_neg, zI_add, zI_sub, zI_mul, zI_n, ne_eq]) <;> (first | rw [zI_lt (by omega) (by omega)] | rw [zI_le (by omega) (by omega)] | rw [zI_eq (by omega) (by omega)]); try omega)) ?_
        rw [if_neg (by omega)] at hk
        exact m_beh40 e2 hx hP j (i + 1) _ _ _ (by omega) b2.2.1 (by omega) b2.1 hk
      · refine brF (by ((try simp only [zI_lit, zI_neg, zI_add, zI_sub, zI_mul, zI_n, ne_eq]) <;> (first | rw [zI_lt (by omega) (by omega)] | rw [zI_le (by omega) (by omega)] | rw [zI_eq (by omega) (by omega)]); try omega)) ?_
        rw [if_pos (by omega)] at hk
        exact m_beh40 e2 hx hP j (i + 1) _ _ _ (by omega) b2.2.1 (by omega) b2.1 hk
    refine brF (by rw [c2, e2]; ((try simp only [zI_lit, zI_neg, zI_add, zI_sub, zI_mul, zI_n, ne_eq]) <;> (first | rw [zI_lt (by omega) (by omega)] | rw [zI_le (by omega) (by omega)] | rw [zI_eq (by omega) (by omega)]); try omega)) (m_act hx hP (by omega) hf hd ?_)
    by_cases g : 0 < dd (P i) f d
    · refine brF (by ((try simp only [zI_lit, zI_neg, zI_add, zI_sub, zI_mul, zI_n, ne_eq]) <;> (first | rw [zI_lt (by omega) (by omega)] | rw [zI_le (by omega) (by omega)] | rw [zI_eq (by omega) (by omega)]); try omega)) ?_
      by_cases g2 : s = 0
      · exact brT (by ((try simp only [zI_lit, zI_neg, zI_add, zI_sub, zI_mul, zI_n, ne_eq]) <;> (first | rw [zI_lt (by omega) (by omega)] | rw [zI_le (by omega) (by omega)] | rw [zI_eq (by omega) (by omega)]); try omega)) (main 0 (by rw [if_pos ⟨g, g2⟩]))
      · exact brF (by ((try simp only [zI_lit, zI_neg, zI_add, zI_sub, zI_mul, zI_n, ne_eq]) <;> (first | rw [zI_lt (by omega) (by omega)] | rw [zI_le (by omega) (by omega)] | rw [zI_eq (by omega) (by omega)]); try omega)) (main _ (by rw [if_neg (fun z => g2 z.2)]))
    · exact brT (by ((try simp only [zI_lit, zI_neg, zI_add, zI_sub, zI_mul, zI_n, ne_eq]) <;> (first | rw [zI_lt (by omega) (by omega)] | rw [zI_le (by omega) (by omega)] | rw [zI_eq (by omega) (by omega)]); try omega)) (main _ (by rw [if_neg (fun z => g z.1)]))
theorem m_beh {np : Nat} {N R : Nat → Int32} {P : Nat → Nat → Int} {h c w : Int} (e0 : N 0 = zI h) (e2 : N 2 = zI np) (hx : rowsIn 6 np (0 + 6) N P) (hP : okP np P) (hh : 0 ≤ h ∧ h ≤ 30) (rc : (-2147483648 ≤ c ∧ c < 2147483648)) (rw_ : (-2147483648 ≤ w ∧ w < 2147483648)) {K : Int32 → (Nat → Int32) → Prop} (h0 : ¬ ((0 ≤ c ∧ c ≤ 30) ∧ 0 ≤ w ∧ w ≤ 1) → K (-2) (upd R 0 (R 0 + 1))) (h1 : (0 ≤ c ∧ c ≤ 30) ∧ 0 ≤ w ∧ w ≤ 1 → K (if w = 0 then zI (bh P np 0 h c 0).1 else zI (bh P np 0 h c 0).2) R) : pX12_behind N R (zI c) (zI w) K := by
  have h12 := hP.1
  have bad : ¬ ((0 ≤ c ∧ c ≤ 30) ∧ 0 ≤ w ∧ w ≤ 1) → pX12_behind_19 K R := fun g => by
    unfold pX12_behind_19
    exact (m_bad _ _).mpr (h0 g)
  unfold pX12_behind
  rw [c0, e0]
  refine m_wi (b := 0) (c := 30) rfl rfl rc (by omega) (by omega) (fun g1 => br1 ?_) (fun g1 => br0 (bad (fun g => g1 g.1)))
  refine m_wi (b := 0) (c := 1) rfl rfl rw_ (by omega) (by omega) (fun g2 => br1 ?_) (fun g2 => br0 (bad (fun g => g2 g.2)))
  have hv := h1 ⟨g1, g2⟩
  refine ⟨np + 1, m_beh40 e2 hx hP np 0 h c 0 (by omega) hh g1 (by omega) ?_⟩
  by_cases q : w = 0
  · rw [if_pos q] at hv
    exact brT (by ((try simp only [zI_lit, zI_neg, zI_add, zI_sub, zI_mul, zI_n, ne_eq]) <;> (first | rw [zI_lt (by omega) (by omega)] | rw [zI_le (by omega) (by omega)] | rw [zI_eq (by omega) (by omega)]); try omega)) hv
  · rw [if_neg q] at hv
    exact brF (by ((try simp only [zI_lit, zI_neg, zI_add, zI_sub, zI_mul, zI_n, ne_eq]) <;> (first | rw [zI_lt (by omega) (by omega)] | rw [zI_le (by omega) (by omega)] | rw [zI_eq (by omega) (by omega)]); try omega)) hv
set_option maxHeartbeats 4000000 in
theorem st_13 : ∀ (s_above : Int64) (s_below : Int64) (s_badCalls : Int32) (s_noCalls : Int32) (s_fullCalls : Int32) (s_road_high : Int32) (s_road_low : Int32) (s_road_passers_size : Int32) (s_road_passers_cells : Nat → Int32) (s_road_beasts_size : Int32) (s_road_beasts_cells : Nat → Int32) (s_road_checks_size : Int32) (s_road_checks_cells : Nat → Int32) (s_road_looks_size : Int32) (s_road_looks_cells : Nat → Int32) (s_trial_high : Int32) (s_trial_low : Int32) (s_trial_passers_size : Int32) (s_trial_passers_cells : Nat → Int32) (s_trial_beasts_size : Int32) (s_trial_beasts_cells : Nat → Int32) (s_trial_checks_size : Int32) (s_trial_checks_cells : Nat → Int32) (s_trial_looks_size : Int32) (s_trial_looks_cells : Nat → Int32) (s_text_length : Int32) (s_text_place : Int32) (s_text_next : Int32) (s_text_bytes : Nat → Int32) (s_text_items_size : Int32) (s_text_items_cells : Nat → Int32) (s_hiring_men : Int32) (s_hiring_goal : Int32) (s_hiring_goalMen : Int32) (s_hiring_fewest : Nat → Int32) (s_hiring_gains : Nat → Int32) (s_spread_now : Nat → Int64) (s_spread_later : Nat → Int64) (s_choices : Nat → Int32) (s_ends : Nat → Int32) (s_laterEnds : Nat → Int32) (s1_above : Int64) (s1_below : Int64) (s1_typed : Int32) (s1_at : Int32) (s1_start : Int32) (s1_sort : Int32) (s1_value : Int32) (s1_fault : Int32) (s1_itemsMany : Int32) (s1_goneHeight : Int32) (s1_goneDid : Int32) (s1_now : Nat → Int32) (s1_isKept : Nat → Int32) (s1_refused : Nat → Int32) (s1_text : Nat → Int32) (s1_items : Nat → Int32) (s1_did : Nat → Int32) (s1_fewest : Nat → Int32) (s1_chosen : Nat → Int32) (s1_ends : Nat → Int32) (s1_rows : Nat → Int32) (s1_ways : Nat → Int64) (s1_then : Nat → Int64) (o0 : Option RD) (o1 : Option RD) (v1 v2 v3 v4 : Int32), RelS s_above s_below s_badCalls s_noCalls s_fullCalls s_road_high s_road_low s_road_passers_size s_road_passers_cells s_road_beasts_size s_road_beasts_cells s_road_checks_size s_road_checks_cells s_road_looks_size s_road_looks_cells s_trial_high s_trial_low s_trial_passers_size s_trial_passers_cells s_trial_beasts_size s_trial_beasts_cells s_trial_checks_size s_trial_checks_cells s_trial_looks_size s_trial_looks_cells s_text_length s_text_place s_text_next s_text_bytes s_text_items_size s_text_items_cells s_hiring_men s_hiring_goal s_hiring_goalMen s_hiring_fewest s_hiring_gains s_spread_now s_spread_later s_choices s_ends s_laterEnds s1_above s1_below s1_typed s1_at s1_start s1_sort s1_value s1_fault s1_itemsMany s1_goneHeight s1_goneDid s1_now s1_isKept s1_refused s1_text s1_items s1_did s1_fewest s1_chosen s1_ends s1_rows s1_ways s1_then o0 o1 → pL_13 RelS s_above s_below s_badCalls s_noCalls s_fullCalls s_road_high s_road_low s_road_passers_size s_road_passers_cells s_road_beasts_size s_road_beasts_cells s_road_checks_size s_road_checks_cells s_road_looks_size s_road_looks_cells s_trial_high s_trial_low s_trial_passers_size s_trial_passers_cells s_trial_beasts_size s_trial_beasts_cells s_trial_checks_size s_trial_checks_cells s_trial_looks_size s_trial_looks_cells s_text_length s_text_place s_text_next s_text_bytes s_text_items_size s_text_items_cells s_hiring_men s_hiring_goal s_hiring_goalMen s_hiring_fewest s_hiring_gains s_spread_now s_spread_later s_choices s_ends s_laterEnds s1_above s1_below s1_typed s1_at s1_start s1_sort s1_value s1_fault s1_itemsMany s1_goneHeight s1_goneDid s1_now s1_isKept s1_refused s1_text s1_items s1_did s1_fewest s1_chosen s1_ends s1_rows s1_ways s1_then o0 o1 v1 v2 v3 v4 := by
  intro s_above s_below s_badCalls s_noCalls s_fullCalls s_road_high s_road_low s_road_passers_size s_road_passers_cells s_road_beasts_size s_road_beasts_cells s_road_checks_size s_road_checks_cells s_road_looks_size s_road_looks_cells s_trial_high s_trial_low s_trial_passers_size s_trial_passers_cells s_trial_beasts_size s_trial_beasts_cells s_trial_checks_size s_trial_checks_cells s_trial_looks_size s_trial_looks_cells s_text_length s_text_place s_text_next s_text_bytes s_text_items_size s_text_items_cells s_hiring_men s_hiring_goal s_hiring_goalMen s_hiring_fewest s_hiring_gains s_spread_now s_spread_later s_choices s_ends s_laterEnds s1_above s1_below s1_typed s1_at s1_start s1_sort s1_value s1_fault s1_itemsMany s1_goneHeight s1_goneDid s1_now s1_isKept s1_refused s1_text s1_items s1_did s1_fewest s1_chosen s1_ends s1_rows s1_ways s1_then o0 o1 v1 v2 v3 v4 hR
  obtain ⟨hRd, hI0, hI1, hT, hab, hbe, hb, hn, hfu⟩ := hR
  unfold pL_13 pX11_behind
  obtain ⟨h, lo, np, nb, nc, nl, P, B, C, L, hok, hx, hm⟩ := id hRd
  obtain ⟨x1, x2, x3, x4, x5, x6, x7, x8, x9, x10⟩ := id hx
  obtain ⟨m1, m2, m3, m4, m5, m6, m7, m8, m9, m10⟩ := id hm
  dsimp only at x1 x2 x3 x4 x5 x6 x7 x8 x9 x10
  have hP := hok.2.2.1
  have n1 := hP.1
  subst x1 x2 x3 x5 x7 x9
  have hh := hok.1
  obtain ⟨y1, rfl, hz1⟩ := zI_ex v1
  obtain ⟨y2, rfl, hz2⟩ := zI_ex v2
  refine x_hi hz1 (fun g1 => br1 ?_) (fun g1 => br0 ?_)
  · refine x_wi (b := 0) (c := 1) rfl rfl hz2 (by omega) (by omega) (fun g2 => br1 ?_) (fun g2 => br0 ?_)
    · refine ⟨np + 1, x_beh40 x4 hP np 0 h y1 0 (by omega) hh g1 (by omega) ?_⟩
      by_cases q : y2 = 0
      · refine brT (by ((try simp only [zI_lit, zI_neg, zI_add, zI_sub, zI_mul, zI_n, ne_eq]) <;> (first | rw [zI_lt (by omega) (by omega)] | rw [zI_le (by omega) (by omega)] | rw [zI_eq (by omega) (by omega)]); try omega)) (m_beh m1 m3 m7 hP hh hz1 hz2 (fun g => absurd ⟨g1, g2⟩ g) (fun _ => ?_))
        rw [if_pos q]
        exact ⟨fun _ => ⟨hRd, hI0, hI1, hT, hab, hbe, hb, hn, hfu⟩, fun z => z rfl⟩
      · refine brF (by ((try simp only [zI_lit, zI_neg, zI_add, zI_sub, zI_mul, zI_n, ne_eq]) <;> (first | rw [zI_lt (by omega) (by omega)] | rw [zI_le (by omega) (by omega)] | rw [zI_eq (by omega) (by omega)]); try omega)) (m_beh m1 m3 m7 hP hh hz1 hz2 (fun g => absurd ⟨g1, g2⟩ g) (fun _ => ?_))
        rw [if_neg q]
        exact ⟨fun _ => ⟨hRd, hI0, hI1, hT, hab, hbe, hb, hn, hfu⟩, fun z => z rfl⟩
    · unfold pX11_behind_16
      refine (x_counted_bad _ _ _ _).mpr (m_beh m1 m3 m7 hP hh hz1 hz2 (fun _ => ?_) (fun g => absurd g.2 g2))
      exact ⟨fun _ => ⟨hRd, hI0, hI1, hT, hab, hbe, by rw [upd_s, hb], (upd_n _ _ (by omega)).trans hn, (upd_n _ _ (by omega)).trans hfu⟩, fun z => z rfl⟩
  · unfold pX11_behind_16
    refine (x_counted_bad _ _ _ _).mpr (m_beh m1 m3 m7 hP hh hz1 hz2 (fun _ => ?_) (fun g => absurd g.1 g1))
    exact ⟨fun _ => ⟨hRd, hI0, hI1, hT, hab, hbe, by rw [upd_s, hb], (upd_n _ _ (by omega)).trans hn, (upd_n _ _ (by omega)).trans hfu⟩, fun z => z rfl⟩
/-! who may -/
theorem cn_top {P : Nat → Nat → Int} {m : Int} {i n : Nat} (hs : ∀ p q, p ≤ q → q < n → P p 0 ≤ P q 0) (hi : i < n) (g : P i 0 ≤ m) : cn P m (i + 1) = i + 1 := by
  have h1 := (cn_iff (P := P) m (i + 1) (fun p q a b => hs p q a (by omega)) i (by omega)).1 g
  have h2 := cn_le P m (i + 1)
  omega
theorem m_may66 {np : Nat} {N R D : Nat → Int32} {P : Nat → Nat → Int} (e2 : N 2 = zI np) (hx : rowsIn 6 np (0 + 6) N P) (hP : okP np P) {m : Int} (hm : -1 ≤ m ∧ m ≤ 99) {w o : Int32} {kx : Int32 → Int32 → Int32 → (Nat → Int32) → (Nat → Int32) → Prop} : ∀ (j i : Nat), i + j = np → kx w o (zI ((cn P m np : Int) - 1)) R D → pX12_may_66 N kx (j + 1) (zI m) w o (zI ((cn P m i : Int) - 1)) (zI i) R D
  | 0, i, hi, hk => by
    have h12 := hP.1
    rw [show i = np by omega]
    exact brT (by rw [c2, e2]; ((try simp only [zI_lit, zI_neg, zI_add, zI_sub, zI_mul, zI_n, ne_eq]) <;> (first | rw [zI_lt (by omega) (by omega)] | rw [zI_le (by omega) (by omega)] | rw [zI_eq (by omega) (by omega)]); try omega)) hk
  | j + 1, i, hi, hk => by
    have h12 := hP.1
    have o1 := (hP.2.1 i (by omega)).1
    have e1 : zI (i : Int) + 1 = zI ((i + 1 : Nat) : Int) := by ((try simp only [zI_lit, zI_neg, zI_add, zI_sub, zI_mul, zI_n]) <;> (first | rfl | (refine zI_eqI ?_; omega)))
    have q := m_may66 e2 hx hP hm j (i + 1) (by omega) hk
    refine brF (by rw [c2, e2]; ((try simp only [zI_lit, zI_neg, zI_add, zI_sub, zI_mul, zI_n, ne_eq]) <;> (first | rw [zI_lt (by omega) (by omega)] | rw [zI_le (by omega) (by omega)] | rw [zI_eq (by omega) (by omega)]); try omega)) (m_p hx h12 (by omega) 0 rfl (by omega) ?_)
    rw [e1]
    by_cases g : P i 0 ≤ m
    · refine brF (by ((try simp only [zI_lit, zI_neg, zI_add, zI_sub, zI_mul, zI_n, ne_eq]) <;> (first | rw [zI_lt (by omega) (by omega)] | rw [zI_le (by omega) (by omega)] | rw [zI_eq (by omega) (by omega)]); try omega)) ?_
      have ec := cn_top hP.2.2 (show i < np by omega) g
      rw [ec, show (((i + 1 : Nat) : Int) - 1) = (i : Int) by omega] at q
      exact q
    · refine brT (by ((try simp only [zI_lit, zI_neg, zI_add, zI_sub, zI_mul, zI_n, ne_eq]) <;> (first | rw [zI_lt (by omega) (by omega)] | rw [zI_le (by omega) (by omega)] | rw [zI_eq (by omega) (by omega)]); try omega)) ?_
      have ec : cn P m (i + 1) = cn P m i := by
        show (if P i 0 ≤ m then cn P m i + 1 else cn P m i) = cn P m i
        rw [if_neg g]
      rw [ec] at q
      exact q
theorem m_may {np : Nat} {N R D : Nat → Int32} {P : Nat → Nat → Int} {h m c w : Int} (e0 : N 0 = zI h) (e2 : N 2 = zI np) (hx : rowsIn 6 np (0 + 6) N P) (hP : okP np P) (hh : 0 ≤ h ∧ h ≤ 30) (rm : (-2147483648 ≤ m ∧ m < 2147483648)) (rc : (-2147483648 ≤ c ∧ c < 2147483648)) (rw_ : (-2147483648 ≤ w ∧ w < 2147483648)) {K : Int32 → (Nat → Int32) → (Nat → Int32) → Prop}
    (h0 : ¬ ((0 ≤ m ∧ m ≤ 99) ∧ (0 ≤ c ∧ c ≤ 30) ∧ 0 ≤ w ∧ w ≤ 1) → K (-2) (upd R 0 (R 0 + 1)) D) (h1 : (0 ≤ m ∧ m ≤ 99) ∧ (0 ≤ c ∧ c ≤ 30) ∧ 0 ≤ w ∧ w ≤ 1 → ∀ D', K (if w = 1 then zI (ab ((wk P (cn P m np) 0 h 0).1 - c)) else if ab ((wk P (cn P m np) 0 h 0).1 - c) = 0 then -1 else zI ((cn P m np : Int) - 1)) R D') : pX12_may N R D (zI m) (zI c) (zI w) K := by
  have h12 := hP.1
  have bad : ¬ ((0 ≤ m ∧ m ≤ 99) ∧ (0 ≤ c ∧ c ≤ 30) ∧ 0 ≤ w ∧ w ≤ 1) → pX12_may_29 K R D := fun g => by
    unfold pX12_may_29
    exact (m_bad _ _).mpr (h0 g)
  unfold pX12_may
  refine m_wi (b := 0) (c := 99) rfl rfl rm (by omega) (by omega) (fun g1 => br1 ?_) (fun g1 => br0 (bad (fun g => g1 g.1)))
  refine m_wi (b := 0) (c := 30) rfl rfl rc (by omega) (by omega) (fun g2 => br1 ?_) (fun g2 => br0 (bad (fun g => g2 g.2.1)))
  refine m_wi (b := 0) (c := 1) rfl rfl rw_ (by omega) (by omega) (fun g3 => br1 ?_) (fun g3 => br0 (bad (fun g => g3 g.2.2)))
  have b := wk_b P (cn P m np) 0 h 0 hh (by omega)
  refine m_hin e0 e2 hx hP hh rfl (by omega) (fun D' _ => ?_)
  have main : ∀ z : Int, z = ab ((wk P (cn P m np) 0 h 0).1 - c) → pX12_may_58 N K (zI m) (zI w) (zI z) R D' := fun z ez => by
    have q := h1 ⟨g1, g2, g3⟩ D'
    rw [← ez] at q
    have bz : 0 ≤ z ∧ z ≤ 30 := by rw [ez]; exact ⟨ab_n _, ab_b (by omega)⟩
    unfold pX12_may_58
    refine ⟨np + 1, m_may66 (m := m) e2 hx hP (by omega) np 0 (by omega) ?_⟩
    by_cases c1' : w = 1
    · rw [if_pos c1'] at q
      exact brT (by ((try simp only [zI_lit, zI_neg, zI_add, zI_sub, zI_mul, zI_n, ne_eq]) <;> (first | rw [zI_lt (by omega) (by omega)] | rw [zI_le (by omega) (by omega)] | rw [zI_eq (by omega) (by omega)]); try omega)) q
    · rw [if_neg c1'] at q
      refine brF (by ((try simp only [zI_lit, zI_neg, zI_add, zI_sub, zI_mul, zI_n, ne_eq]) <;> (first | rw [zI_lt (by omega) (by omega)] | rw [zI_le (by omega) (by omega)] | rw [zI_eq (by omega) (by omega)]); try omega)) ?_
      by_cases c2' : z = 0
      · rw [if_pos c2'] at q
        exact brT (by ((try simp only [zI_lit, zI_neg, zI_add, zI_sub, zI_mul, zI_n, ne_eq]) <;> (first | rw [zI_lt (by omega) (by omega)] | rw [zI_le (by omega) (by omega)] | rw [zI_eq (by omega) (by omega)]); try omega)) q
      · rw [if_neg c2'] at q
        exact brF (by ((try simp only [zI_lit, zI_neg, zI_add, zI_sub, zI_mul, zI_n, ne_eq]) <;> (first | rw [zI_lt (by omega) (by omega)] | rw [zI_le (by omega) (by omega)] | rw [zI_eq (by omega) (by omega)]); try omega)) q
  by_cases q : c ≤ (wk P (cn P m np) 0 h 0).1
  · refine brT (by ((try simp only [zI_lit, zI_neg, zI_add, zI_sub, zI_mul, zI_n, ne_eq]) <;> (first | rw [zI_lt (by omega) (by omega)] | rw [zI_le (by omega) (by omega)] | rw [zI_eq (by omega) (by omega)]); try omega)) ?_
    rw [zI_sub]
    exact main _ (by unfold ab; rw [if_pos (by omega)])
  · refine brF (by ((try simp only [zI_lit, zI_neg, zI_add, zI_sub, zI_mul, zI_n, ne_eq]) <;> (first | rw [zI_lt (by omega) (by omega)] | rw [zI_le (by omega) (by omega)] | rw [zI_eq (by omega) (by omega)]); try omega)) ?_
    rw [zI_sub]
    exact main _ (by unfold ab; rw [if_neg (by omega), Int.neg_sub])
set_option maxHeartbeats 4000000 in
theorem st_14 : ∀ (s_above : Int64) (s_below : Int64) (s_badCalls : Int32) (s_noCalls : Int32) (s_fullCalls : Int32) (s_road_high : Int32) (s_road_low : Int32) (s_road_passers_size : Int32) (s_road_passers_cells : Nat → Int32) (s_road_beasts_size : Int32) (s_road_beasts_cells : Nat → Int32) (s_road_checks_size : Int32) (s_road_checks_cells : Nat → Int32) (s_road_looks_size : Int32) (s_road_looks_cells : Nat → Int32) (s_trial_high : Int32) (s_trial_low : Int32) (s_trial_passers_size : Int32) (s_trial_passers_cells : Nat → Int32) (s_trial_beasts_size : Int32) (s_trial_beasts_cells : Nat → Int32) (s_trial_checks_size : Int32) (s_trial_checks_cells : Nat → Int32) (s_trial_looks_size : Int32) (s_trial_looks_cells : Nat → Int32) (s_text_length : Int32) (s_text_place : Int32) (s_text_next : Int32) (s_text_bytes : Nat → Int32) (s_text_items_size : Int32) (s_text_items_cells : Nat → Int32) (s_hiring_men : Int32) (s_hiring_goal : Int32) (s_hiring_goalMen : Int32) (s_hiring_fewest : Nat → Int32) (s_hiring_gains : Nat → Int32) (s_spread_now : Nat → Int64) (s_spread_later : Nat → Int64) (s_choices : Nat → Int32) (s_ends : Nat → Int32) (s_laterEnds : Nat → Int32) (s1_above : Int64) (s1_below : Int64) (s1_typed : Int32) (s1_at : Int32) (s1_start : Int32) (s1_sort : Int32) (s1_value : Int32) (s1_fault : Int32) (s1_itemsMany : Int32) (s1_goneHeight : Int32) (s1_goneDid : Int32) (s1_now : Nat → Int32) (s1_isKept : Nat → Int32) (s1_refused : Nat → Int32) (s1_text : Nat → Int32) (s1_items : Nat → Int32) (s1_did : Nat → Int32) (s1_fewest : Nat → Int32) (s1_chosen : Nat → Int32) (s1_ends : Nat → Int32) (s1_rows : Nat → Int32) (s1_ways : Nat → Int64) (s1_then : Nat → Int64) (o0 : Option RD) (o1 : Option RD) (v1 v2 v3 v4 : Int32), RelS s_above s_below s_badCalls s_noCalls s_fullCalls s_road_high s_road_low s_road_passers_size s_road_passers_cells s_road_beasts_size s_road_beasts_cells s_road_checks_size s_road_checks_cells s_road_looks_size s_road_looks_cells s_trial_high s_trial_low s_trial_passers_size s_trial_passers_cells s_trial_beasts_size s_trial_beasts_cells s_trial_checks_size s_trial_checks_cells s_trial_looks_size s_trial_looks_cells s_text_length s_text_place s_text_next s_text_bytes s_text_items_size s_text_items_cells s_hiring_men s_hiring_goal s_hiring_goalMen s_hiring_fewest s_hiring_gains s_spread_now s_spread_later s_choices s_ends s_laterEnds s1_above s1_below s1_typed s1_at s1_start s1_sort s1_value s1_fault s1_itemsMany s1_goneHeight s1_goneDid s1_now s1_isKept s1_refused s1_text s1_items s1_did s1_fewest s1_chosen s1_ends s1_rows s1_ways s1_then o0 o1 → pL_14 RelS s_above s_below s_badCalls s_noCalls s_fullCalls s_road_high s_road_low s_road_passers_size s_road_passers_cells s_road_beasts_size s_road_beasts_cells s_road_checks_size s_road_checks_cells s_road_looks_size s_road_looks_cells s_trial_high s_trial_low s_trial_passers_size s_trial_passers_cells s_trial_beasts_size s_trial_beasts_cells s_trial_checks_size s_trial_checks_cells s_trial_looks_size s_trial_looks_cells s_text_length s_text_place s_text_next s_text_bytes s_text_items_size s_text_items_cells s_hiring_men s_hiring_goal s_hiring_goalMen s_hiring_fewest s_hiring_gains s_spread_now s_spread_later s_choices s_ends s_laterEnds s1_above s1_below s1_typed s1_at s1_start s1_sort s1_value s1_fault s1_itemsMany s1_goneHeight s1_goneDid s1_now s1_isKept s1_refused s1_text s1_items s1_did s1_fewest s1_chosen s1_ends s1_rows s1_ways s1_then o0 o1 v1 v2 v3 v4 := by
  intro s_above s_below s_badCalls s_noCalls s_fullCalls s_road_high s_road_low s_road_passers_size s_road_passers_cells s_road_beasts_size s_road_beasts_cells s_road_checks_size s_road_checks_cells s_road_looks_size s_road_looks_cells s_trial_high s_trial_low s_trial_passers_size s_trial_passers_cells s_trial_beasts_size s_trial_beasts_cells s_trial_checks_size s_trial_checks_cells s_trial_looks_size s_trial_looks_cells s_text_length s_text_place s_text_next s_text_bytes s_text_items_size s_text_items_cells s_hiring_men s_hiring_goal s_hiring_goalMen s_hiring_fewest s_hiring_gains s_spread_now s_spread_later s_choices s_ends s_laterEnds s1_above s1_below s1_typed s1_at s1_start s1_sort s1_value s1_fault s1_itemsMany s1_goneHeight s1_goneDid s1_now s1_isKept s1_refused s1_text s1_items s1_did s1_fewest s1_chosen s1_ends s1_rows s1_ways s1_then o0 o1 v1 v2 v3 v4 hR
  obtain ⟨hRd, hI0, hI1, hT, hab, hbe, hb, hn, hfu⟩ := hR
  unfold pL_14 pX11_may
  obtain ⟨h, lo, np, nb, nc, nl, P, B, C, L, hok, hx, hm⟩ := id hRd
  obtain ⟨x1, x2, x3, x4, x5, x6, x7, x8, x9, x10⟩ := id hx
  obtain ⟨m1, m2, m3, m4, m5, m6, m7, m8, m9, m10⟩ := id hm
  dsimp only at x1 x2 x3 x4 x5 x6 x7 x8 x9 x10
  have hP := hok.2.2.1
  have n1 := hP.1
  subst x1 x2 x3 x5 x7 x9
  have hh := hok.1
  obtain ⟨y1, rfl, hz1⟩ := zI_ex v1
  obtain ⟨y2, rfl, hz2⟩ := zI_ex v2
  obtain ⟨y3, rfl, hz3⟩ := zI_ex v3
  have rb : ∀ K : Int32 → (Nat → Int32) → (Nat → Int32) → Prop, ¬ ((0 ≤ y1 ∧ y1 ≤ 99) ∧ (0 ≤ y2 ∧ y2 ≤ 30) ∧ 0 ≤ y3 ∧ y3 ≤ 1) → K (-2) (upd s1_refused 0 (s1_refused 0 + 1)) s1_did → pX12_may s1_now s1_refused s1_did (zI y1) (zI y2) (zI y3) K := fun K g hk => m_may m1 m3 m7 hP hh hz1 hz2 hz3 (fun _ => hk) (fun g' => absurd g' g)
  refine x_mi hz1 (fun g1 => br1 ?_) (fun g1 => br0 ?_)
  · refine x_hi hz2 (fun g2 => br1 ?_) (fun g2 => br0 ?_)
    · refine x_wi (b := 0) (c := 1) rfl rfl hz3 (by omega) (by omega) (fun g3 => br1 ?_) (fun g3 => br0 ?_)
      · have b := wk_b P (cn P y1 np) 0 h 0 hh (by omega)
        have hc := cn_le P y1 np
        have ba : 0 ≤ ab ((wk P (cn P y1 np) 0 h 0).1 - y2) ∧ ab ((wk P (cn P y1 np) 0 h 0).1 - y2) ≤ 30 := ⟨ab_n _, ab_b (by omega)⟩
        refine x_highIn x4 hP (by omega) hh ?_
        rw [zI_sub, x_ab (by omega)]
        by_cases c1' : y3 = 1
        · refine brT (by ((try simp only [zI_lit, zI_neg, zI_add, zI_sub, zI_mul, zI_n, ne_eq]) <;> (first | rw [zI_lt (by omega) (by omega)] | rw [zI_le (by omega) (by omega)] | rw [zI_eq (by omega) (by omega)]); try omega)) (m_may m1 m3 m7 hP hh hz1 hz2 hz3 (fun g => absurd ⟨g1, g2, g3⟩ g) (fun _ D' => ?_))
          rw [if_pos c1']
          exact ⟨fun _ => ⟨hRd, hI0, hI1, hT, hab, hbe, hb, hn, hfu⟩, fun z => z rfl⟩
        · refine brF (by ((try simp only [zI_lit, zI_neg, zI_add, zI_sub, zI_mul, zI_n, ne_eq]) <;> (first | rw [zI_lt (by omega) (by omega)] | rw [zI_le (by omega) (by omega)] | rw [zI_eq (by omega) (by omega)]); try omega)) ?_
          by_cases c2' : ab ((wk P (cn P y1 np) 0 h 0).1 - y2) = 0
          · refine brT (by ((try simp only [zI_lit, zI_neg, zI_add, zI_sub, zI_mul, zI_n, ne_eq]) <;> (first | rw [zI_lt (by omega) (by omega)] | rw [zI_le (by omega) (by omega)] | rw [zI_eq (by omega) (by omega)]); try omega)) (m_may m1 m3 m7 hP hh hz1 hz2 hz3 (fun g => absurd ⟨g1, g2, g3⟩ g) (fun _ D' => ?_))
            rw [if_neg c1', if_pos c2']
            exact ⟨fun _ => ⟨hRd, hI0, hI1, hT, hab, hbe, hb, hn, hfu⟩, fun z => z rfl⟩
          · refine brF (by ((try simp only [zI_lit, zI_neg, zI_add, zI_sub, zI_mul, zI_n, ne_eq]) <;> (first | rw [zI_lt (by omega) (by omega)] | rw [zI_le (by omega) (by omega)] | rw [zI_eq (by omega) (by omega)]); try omega)) (x_passed x4 hP (by omega) (m_may m1 m3 m7 hP hh hz1 hz2 hz3 (fun g => absurd ⟨g1, g2, g3⟩ g) (fun _ D' => ?_)))
            rw [if_neg c1', if_neg c2']
            exact ⟨fun _ => ⟨hRd, hI0, hI1, hT, hab, hbe, hb, hn, hfu⟩, fun z => z (by ((try simp only [zI_lit, zI_neg, zI_add, zI_sub, zI_mul, zI_n]) <;> (first | rfl | (refine zI_eqI ?_; omega))))⟩
      · unfold pX11_may_23
        refine (x_counted_bad _ _ _ _).mpr (rb _ (fun g => g3 g.2.2) ?_)
        exact ⟨fun _ => ⟨hRd, hI0, hI1, hT, hab, hbe, by rw [upd_s, hb], (upd_n _ _ (by omega)).trans hn, (upd_n _ _ (by omega)).trans hfu⟩, fun z => z rfl⟩
    · unfold pX11_may_23
      refine (x_counted_bad _ _ _ _).mpr (rb _ (fun g => g2 g.2.1) ?_)
      exact ⟨fun _ => ⟨hRd, hI0, hI1, hT, hab, hbe, by rw [upd_s, hb], (upd_n _ _ (by omega)).trans hn, (upd_n _ _ (by omega)).trans hfu⟩, fun z => z rfl⟩
  · unfold pX11_may_23
    refine (x_counted_bad _ _ _ _).mpr (rb _ (fun g => g1 g.1) ?_)
    exact ⟨fun _ => ⟨hRd, hI0, hI1, hT, hab, hbe, by rw [upd_s, hb], (upd_n _ _ (by omega)).trans hn, (upd_n _ _ (by omega)).trans hfu⟩, fun z => z rfl⟩
