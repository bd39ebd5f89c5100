/-! chance -/
def WO (P : Nat → Nat → Int) (h : Int) : Nat → Nat → Int
  | 0 => ind h
  | i + 1 => pO (WO P h i) (P i)
theorem WO_n {np : Nat} {P : Nat → Nat → Int} (hP : okP np P) (h : Int) : ∀ i : Nat, i ≤ np → ∀ q, 0 ≤ WO P h i q
  | 0, _, q => ind_n h q
  | i + 1, hi, q => pO_n hP (by omega) (WO_n hP h i (by omega)) q
theorem WO_s {P : Nat → Nat → Int} {h : Int} (hh : 0 ≤ h ∧ h ≤ 30) : ∀ i : Nat, sm (WO P h i) 31 = (10 : Int) ^ i
  | 0 => by rw [Int.pow_zero]; exact ind_s hh
  | i + 1 => by
    show sm (pO (WO P h i) (P i)) 31 = _
    rw [pO_s, WO_s hh i, Int.pow_succ]
theorem WO_u {np : Nat} {P : Nat → Nat → Int} (hP : okP np P) {h : Int} (hh : 0 ≤ h ∧ h ≤ 30) {c : Nat} (hc : c ≤ 30) : 0 ≤ sm (WO P h np) (c + 1) ∧ sm (WO P h np) (c + 1) ≤ 1000000000000 := by
  have h1 := sm_n (f := WO P h np) (c + 1) (fun q _ => WO_n hP h np (Nat.le_refl np) q)
  have h2 := sm_mono (f := WO P h np) (c + 1) (30 - c) (fun q _ => WO_n hP h np (Nat.le_refl np) q)
  rw [show c + 1 + (30 - c) = 31 by omega, WO_s hh] at h2
  have h3 := pow10 np hP.1
  omega
section CX
variable {np : Nat} {cells : Nat → Int32} {P : Nat → Nat → Int} {h : Int}
theorem x_ch33 (hx : rowsIn 6 np 0 cells P) (hP : okP np P) {X b n f : Int32} {U V : Int64} {kx : Int32 → Int64 → Int64 → Int64 → Int32 → Int32 → Int32 → (Nat → Int64) → (Nat → Int64) → Prop} (hk : ∀ A B : Nat → Int64, lr A (WO P h np) → kx X (zL ((10 : Int) ^ np)) U V b n f A B) : ∀ (j i : Nat) (A B : Nat → Int64), i + j = np → lr A (WO P h i) → pX11_chance_33 (zI np) cells kx (j + 1) X (zL ((10 : Int) ^ i)) (zI i) U V b n f A B
  | 0, i, A, B, hi, hA => by
    have h12 := hP.1
    rw [show i = np by omega] at hA ⊢
    exact brT (by ((try simp only [zI_lit, zI_neg, zI_add, zI_sub, zI_mul, zI_n, ne_eq]) <;> (first | rw [zI_lt (by omega) (by omega)] | rw [zI_le (by omega) (by omega)] | rw [zI_eq (by omega) (by omega)]); try omega)) (hk A B hA)
  | j + 1, i, A, B, hi, hA => by
    have h12 := hP.1
    have e1 : zI (i : Int) + 1 = zI ((i + 1 : Nat) : Int) := by ((try simp only [zI_lit, zI_neg, zI_add, zI_sub, zI_mul, zI_n]) <;> (first | rfl | (refine zI_eqI ?_; omega)))
    refine brF (by ((try simp only [zI_lit, zI_neg, zI_add, zI_sub, zI_mul, zI_n, ne_eq]) <;> (first | rw [zI_lt (by omega) (by omega)] | rw [zI_le (by omega) (by omega)] | rw [zI_eq (by omega) (by omega)]); try omega)) (x_pbo hx hP (by omega) hA (fun A' B' hA' => ?_))
    rw [e1, zL_10, zL_mul, ← Int.pow_succ]
    exact x_ch33 hx hP hk j (i + 1) A' B' (by omega) hA'
theorem x_chance {a : Int} {b n f : Int32} {U V : Int64} {A B : Nat → Int64} (hx : rowsIn 6 np 0 cells P) (hP : okP np P) (hh : 0 ≤ h ∧ h ≤ 30) (ra : (-2147483648 ≤ a ∧ a < 2147483648)) {K : Int32 → Int64 → Int64 → Int32 → Int32 → Int32 → (Nat → Int64) → (Nat → Int64) → Prop} (h0 : ¬ (0 ≤ a ∧ a ≤ 30) → K (-2) U V (b + 1) n f A B) (h1 : 0 ≤ a ∧ a ≤ 30 → ∀ A' B', K 1 (zL (sm (WO P h np) (a.toNat + 1)) / zL (eg 80 (sm (WO P h np) (a.toNat + 1)) ((10 : Int) ^ np))) (zL ((10 : Int) ^ np) / zL (eg 80 (sm (WO P h np) (a.toNat + 1)) ((10 : Int) ^ np))) b n f A' B') : pX11_chance U V b n f (zI h) (zI np) cells A B (zI a) K := by
  have h12 := hP.1
  unfold pX11_chance
  refine x_hi ra (fun g => br1 ?_) (fun g => br0 ((x_counted_bad _ _ _ _).mpr (h0 g)))
  have hv := h1 g
  obtain ⟨c, rfl⟩ : ∃ c : Nat, a = (c : Int) := ⟨a.toNat, by omega⟩
  rw [Int.toNat_natCast] at hv
  refine x_start hh (fun A1 h1 => ⟨np + 1, x_ch33 (h := h) hx hP (fun A2 B2 h2 => x_up h2 rfl (by omega) (x_setF (WO_u hP hh (by omega)) (pow10 np h12) (hv A2 B2))) np 0 A1 B (by omega) h1⟩)
end CX
section CM
variable {np : Nat} {N : Nat → Int32} {P : Nat → Nat → Int} {h : Int}
theorem m_ch24 (e2 : N 2 = zI np) (hx : rowsIn 6 np (0 + 6) N P) (hP : okP np P) {X : Int32} {U V : Int64} {R : Nat → Int32} {kx : Int32 → Int64 → Int64 → Int64 → (Nat → Int32) → (Nat → Int64) → (Nat → Int64) → Prop} (hk : ∀ A B : Nat → Int64, lr A (WO P h np) → kx X (zL ((10 : Int) ^ np)) U V R A B) : ∀ (j i : Nat) (A B : Nat → Int64), i + j = np → lr A (WO P h i) → pX12_chance_24 N kx (j + 1) X (zL ((10 : Int) ^ i)) (zI i) U V R A B
  | 0, i, A, B, hi, hA => by
    have h12 := hP.1
    rw [show i = np by omega] at hA ⊢
    exact brT (by rw [c2, e2]; ((try simp only [zI_lit, zI_neg, zI_add, zI_sub, zI_mul, zI_n, ne_eq]) <;> (first | rw [zI_lt (by omega) (by omega)] | rw [zI_le (by omega) (by omega)] | rw [zI_eq (by omega) (by omega)]); try omega)) (hk A B hA)
  | j + 1, i, A, B, hi, hA => by
    have h12 := hP.1
    have e1 : zI (i : Int) + 1 = zI ((i + 1 : Nat) : Int) := by ((try simp only [zI_lit, zI_neg, zI_add, zI_sub, zI_mul, zI_n]) <;> (first | rfl | (refine zI_eqI ?_; omega)))
    refine brF (by rw [c2, e2]; ((try simp only [zI_lit, zI_neg, zI_add, zI_sub, zI_mul, zI_n, ne_eq]) <;> (first | rw [zI_lt (by omega) (by omega)] | rw [zI_le (by omega) (by omega)] | rw [zI_eq (by omega) (by omega)]); try omega)) (m_go hx hP (by omega) hA (fun A' B' hA' => ?_))
    rw [e1, zL_10, zL_mul, ← Int.pow_succ]
    exact m_ch24 e2 hx hP hk j (i + 1) A' B' (by omega) hA'
theorem m_chance {a : Int} {U V : Int64} {R : Nat → Int32} {A B : Nat → Int64} (e0 : N 0 = zI h) (e2 : N 2 = zI np) (hx : rowsIn 6 np (0 + 6) N P) (hP : okP np P) (hh : 0 ≤ h ∧ h ≤ 30) (ra : (-2147483648 ≤ a ∧ a < 2147483648)) {K : Int32 → Int64 → Int64 → (Nat → Int32) → (Nat → Int64) → (Nat → Int64) → Prop} (h0 : ¬ (0 ≤ a ∧ a ≤ 30) → K (-2) U V (upd R 0 (R 0 + 1)) A B) (h1 : 0 ≤ a ∧ a ≤ 30 → ∀ A' B', K 1 (zL (sm (WO P h np) (a.toNat + 1)) / zL (eg 80 (sm (WO P h np) (a.toNat + 1)) ((10 : Int) ^ np))) (zL ((10 : Int) ^ np) / zL (eg 80 (sm (WO P h np) (a.toNat + 1)) ((10 : Int) ^ np))) R A' B') : pX12_chance U V N R A B (zI a) K := by
  have h12 := hP.1
  unfold pX12_chance
  refine m_wi (b := 0) (c := 30) rfl rfl ra (by omega) (by omega) (fun g => br1 ?_) (fun g => br0 ((m_bad _ _).mpr (h0 g)))
  have hv := h1 g
  obtain ⟨c, rfl⟩ : ∃ c : Nat, a = (c : Int) := ⟨a.toNat, by omega⟩
  rw [Int.toNat_natCast] at hv
  exact m_beg e0 hh (fun A1 h1 => ⟨np + 1, m_ch24 (h := h) e2 hx hP (fun A2 B2 h2 => m_w h2 rfl (by omega) (m_tell (WO_u hP hh (by omega)) (pow10 np h12) (hv A2 B2))) np 0 A1 B (by omega) h1⟩)
end CM
set_option maxHeartbeats 4000000 in
theorem st_24 : ∀ (s_above : Int64) (s_below : Int64) (s_badCalls : Int32) (s_noCalls : Int32) (s_fullCalls : Int32) (s_road_high : Int32) (s_road_low : Int32) (s_road_passers_size : Int32) (s_road_passers_cells : Nat → Int32) (s_road_beasts_size : Int32) (s_road_beasts_cells : Nat → Int32) (s_road_checks_size : Int32) (s_road_checks_cells : Nat → Int32) (s_road_looks_size : Int32) (s_road_looks_cells : Nat → Int32) (s_trial_high : Int32) (s_trial_low : Int32) (s_trial_passers_size : Int32) (s_trial_passers_cells : Nat → Int32) (s_trial_beasts_size : Int32) (s_trial_beasts_cells : Nat → Int32) (s_trial_checks_size : Int32) (s_trial_checks_cells : Nat → Int32) (s_trial_looks_size : Int32) (s_trial_looks_cells : Nat → Int32) (s_text_length : Int32) (s_text_place : Int32) (s_text_next : Int32) (s_text_bytes : Nat → Int32) (s_text_items_size : Int32) (s_text_items_cells : Nat → Int32) (s_hiring_men : Int32) (s_hiring_goal : Int32) (s_hiring_goalMen : Int32) (s_hiring_fewest : Nat → Int32) (s_hiring_gains : Nat → Int32) (s_spread_now : Nat → Int64) (s_spread_later : Nat → Int64) (s_choices : Nat → Int32) (s_ends : Nat → Int32) (s_laterEnds : Nat → Int32) (s1_above : Int64) (s1_below : Int64) (s1_typed : Int32) (s1_at : Int32) (s1_start : Int32) (s1_sort : Int32) (s1_value : Int32) (s1_fault : Int32) (s1_itemsMany : Int32) (s1_goneHeight : Int32) (s1_goneDid : Int32) (s1_now : Nat → Int32) (s1_isKept : Nat → Int32) (s1_refused : Nat → Int32) (s1_text : Nat → Int32) (s1_items : Nat → Int32) (s1_did : Nat → Int32) (s1_fewest : Nat → Int32) (s1_chosen : Nat → Int32) (s1_ends : Nat → Int32) (s1_rows : Nat → Int32) (s1_ways : Nat → Int64) (s1_then : Nat → Int64) (o0 : Option RD) (o1 : Option RD) (v1 v2 v3 v4 : Int32), RelS s_above s_below s_badCalls s_noCalls s_fullCalls s_road_high s_road_low s_road_passers_size s_road_passers_cells s_road_beasts_size s_road_beasts_cells s_road_checks_size s_road_checks_cells s_road_looks_size s_road_looks_cells s_trial_high s_trial_low s_trial_passers_size s_trial_passers_cells s_trial_beasts_size s_trial_beasts_cells s_trial_checks_size s_trial_checks_cells s_trial_looks_size s_trial_looks_cells s_text_length s_text_place s_text_next s_text_bytes s_text_items_size s_text_items_cells s_hiring_men s_hiring_goal s_hiring_goalMen s_hiring_fewest s_hiring_gains s_spread_now s_spread_later s_choices s_ends s_laterEnds s1_above s1_below s1_typed s1_at s1_start s1_sort s1_value s1_fault s1_itemsMany s1_goneHeight s1_goneDid s1_now s1_isKept s1_refused s1_text s1_items s1_did s1_fewest s1_chosen s1_ends s1_rows s1_ways s1_then o0 o1 → pL_24 RelS s_above s_below s_badCalls s_noCalls s_fullCalls s_road_high s_road_low s_road_passers_size s_road_passers_cells s_road_beasts_size s_road_beasts_cells s_road_checks_size s_road_checks_cells s_road_looks_size s_road_looks_cells s_trial_high s_trial_low s_trial_passers_size s_trial_passers_cells s_trial_beasts_size s_trial_beasts_cells s_trial_checks_size s_trial_checks_cells s_trial_looks_size s_trial_looks_cells s_text_length s_text_place s_text_next s_text_bytes s_text_items_size s_text_items_cells s_hiring_men s_hiring_goal s_hiring_goalMen s_hiring_fewest s_hiring_gains s_spread_now s_spread_later s_choices s_ends s_laterEnds s1_above s1_below s1_typed s1_at s1_start s1_sort s1_value s1_fault s1_itemsMany s1_goneHeight s1_goneDid s1_now s1_isKept s1_refused s1_text s1_items s1_did s1_fewest s1_chosen s1_ends s1_rows s1_ways s1_then o0 o1 v1 v2 v3 v4 := by
  intro s_above s_below s_badCalls s_noCalls s_fullCalls s_road_high s_road_low s_road_passers_size s_road_passers_cells s_road_beasts_size s_road_beasts_cells s_road_checks_size s_road_checks_cells s_road_looks_size s_road_looks_cells s_trial_high s_trial_low s_trial_passers_size s_trial_passers_cells s_trial_beasts_size s_trial_beasts_cells s_trial_checks_size s_trial_checks_cells s_trial_looks_size s_trial_looks_cells s_text_length s_text_place s_text_next s_text_bytes s_text_items_size s_text_items_cells s_hiring_men s_hiring_goal s_hiring_goalMen s_hiring_fewest s_hiring_gains s_spread_now s_spread_later s_choices s_ends s_laterEnds s1_above s1_below s1_typed s1_at s1_start s1_sort s1_value s1_fault s1_itemsMany s1_goneHeight s1_goneDid s1_now s1_isKept s1_refused s1_text s1_items s1_did s1_fewest s1_chosen s1_ends s1_rows s1_ways s1_then o0 o1 v1 v2 v3 v4 hR
  obtain ⟨hRd, hI0, hI1, hT, hab, hbe, hb, hn, hfu⟩ := hR
  unfold pL_24
  obtain ⟨h, lo, np, nb, nc, nl, P, B, C, L, hok, hx, hm⟩ := id hRd
  obtain ⟨x1, x2, x3, x4, x5, x6, x7, x8, x9, x10⟩ := id hx
  obtain ⟨m1, m2, m3, m4, m5, m6, m7, m8, m9, m10⟩ := id hm
  dsimp only at x1 x2 x3 x4 x5 x6 x7 x8 x9 x10
  have hP := hok.2.2.1
  have n1 := hP.1
  subst x1 x2 x3 x5 x7 x9
  have hh := hok.1
  obtain ⟨y1, rfl, hz1⟩ := zI_ex v1
  refine x_chance x4 hP hh hz1 (fun g => ?_) (fun g A B => ?_)
  · refine m_chance m1 m3 m7 hP hh hz1 (fun _ => ?_) (fun g' => absurd g' g)
    exact ⟨fun _ => ⟨hRd, hI0, hI1, hT, hab, hbe, by rw [upd_s, hb], (upd_n _ _ (by omega)).trans hn, (upd_n _ _ (by omega)).trans hfu⟩, fun z => z rfl⟩
  · refine m_chance m1 m3 m7 hP hh hz1 (fun g' => absurd g g') (fun _ A' B' => ?_)
    exact ⟨fun _ => ⟨hRd, hI0, hI1, hT, rfl, rfl, hb, hn, hfu⟩, fun z => z rfl⟩
/-! how long until the coach is through -/
def VO (P : Nat → Nat → Int) (h : Int) (c : Nat) : Nat → Nat → Int
  | 0 => ind h
  | i + 1 => pO (ctf c (VO P h c i)) (P i)
def tl (P : Nat → Nat → Int) (h : Int) (c : Nat) : Nat → Int
  | 0 => sm (VO P h c 0) (c + 1)
  | i + 1 => tl P h c i * 10 + sm (VO P h c (i + 1)) (c + 1)
theorem ctf_n {c : Nat} {W : Nat → Int} (h : ∀ q, 0 ≤ W q) (q : Nat) : 0 ≤ ctf c W q := by
  unfold ctf
  have := h q
  split <;> omega
theorem VO_n {np : Nat} {P : Nat → Nat → Int} (hP : okP np P) (h : Int) (c : Nat) : ∀ i : Nat, i ≤ np → ∀ q, 0 ≤ VO P h c i q
  | 0, _, q => ind_n h q
  | i + 1, hi, q => pO_n hP (by omega) (ctf_n (VO_n hP h c i (by omega))) q
theorem tl_s {P : Nat → Nat → Int} {h : Int} (hh : 0 ≤ h ∧ h ≤ 30) {c : Nat} (hc : c ≤ 30) : ∀ i : Nat, sm (ctf c (VO P h c i)) 31 + tl P h c i = (10 : Int) ^ i
  | 0 => by
    have e := sm_ctf (f := VO P h c 0) (c := c) 31
    rw [show min 31 (c + 1) = c + 1 by omega] at e
    rw [Int.pow_zero]
    show sm (ctf c (VO P h c 0)) 31 + sm (VO P h c 0) (c + 1) = 1
    rw [e]
    exact ind_s hh
  | i + 1 => by
    have e := sm_ctf (f := VO P h c (i + 1)) (c := c) 31
    rw [show min 31 (c + 1) = c + 1 by omega] at e
    have ih := tl_s hh hc i (P := P)
    have es : sm (VO P h c (i + 1)) 31 = sm (ctf c (VO P h c i)) 31 * 10 := pO_s
    rw [Int.pow_succ]
    show sm (ctf c (VO P h c (i + 1))) 31 + (tl P h c i * 10 + sm (VO P h c (i + 1)) (c + 1)) = _
    omega
theorem tl_n {np : Nat} {P : Nat → Nat → Int} (hP : okP np P) (h : Int) (c : Nat) : ∀ i : Nat, i ≤ np → 0 ≤ tl P h c i ∧ sm (VO P h c i) (c + 1) ≤ tl P h c i ∧ 0 ≤ sm (VO P h c i) (c + 1)
  | 0, hi => by
    have h1 := sm_n (f := VO P h c 0) (c + 1) (fun q _ => VO_n hP h c 0 hi q)
    exact ⟨h1, Int.le_refl _, h1⟩
  | i + 1, hi => by
    have h1 := sm_n (f := VO P h c (i + 1)) (c + 1) (fun q _ => VO_n hP h c (i + 1) hi q)
    have ih := tl_n hP h c i (by omega)
    show 0 ≤ tl P h c i * 10 + sm (VO P h c (i + 1)) (c + 1) ∧ sm (VO P h c (i + 1)) (c + 1) ≤ tl P h c i * 10 + sm (VO P h c (i + 1)) (c + 1) ∧ _
    omega
def frV (P : Nat → Nat → Int) (h : Int) (c i : Nat) (w : Int) : Int := if w = 0 then sm (VO P h c i) (c + 1) else tl P h c i
theorem frV_b {np : Nat} {P : Nat → Nat → Int} (hP : okP np P) {h : Int} (hh : 0 ≤ h ∧ h ≤ 30) {c : Nat} (hc : c ≤ 30) {i : Nat} (hi : i ≤ np) (w : Int) : 0 ≤ frV P h c i w ∧ frV P h c i w ≤ 1000000000000 := by
  have h12 := hP.1
  have h1 := tl_n hP h c i hi
  have h2 := tl_s (P := P) hh hc i
  have h3 := sm_n (f := ctf c (VO P h c i)) 31 (fun q _ => ctf_n (VO_n hP h c i hi) q)
  have h4 := pow10 i (by omega)
  unfold frV
  split <;> omega
section FX
variable {np : Nat} {cells : Nat → Int32} {P : Nat → Nat → Int} {h : Int} {c : Nat}
theorem x_fr70 (hx : rowsIn 6 np 0 cells P) (hP : okP np P) (hc : c ≤ 30) {X b n f : Int32} {U V : Int64} {s : Nat} (hs : s ≤ np) {kx : Int32 → Int64 → Int64 → Int64 → Int64 → Int32 → Int32 → Int32 → (Nat → Int64) → (Nat → Int64) → Prop} (hk : ∀ A B : Nat → Int64, lr A (ctf c (VO P h c s)) → kx X (zL (sm (VO P h c s) (c + 1))) (zL ((10 : Int) ^ s)) U V b n f A B) : ∀ (j i : Nat) (A B : Nat → Int64), i + j = s → lr A (ctf c (VO P h c i)) → pX11_free_70 (zI c) cells kx (j + 1) (zI ((s : Int) - 1)) X (zL (sm (VO P h c i) (c + 1))) (zL ((10 : Int) ^ i)) (zI i) U V b n f A B
  | 0, i, A, B, hi, hA => by
    have h12 := hP.1
    rw [show i = s by omega] at hA ⊢
    exact brT (by ((try simp only [zI_lit, zI_neg, zI_add, zI_sub, zI_mul, zI_n, ne_eq]) <;> (first | rw [zI_lt (by omega) (by omega)] | rw [zI_le (by omega) (by omega)] | rw [zI_eq (by omega) (by omega)]); try omega)) (hk A B hA)
  | j + 1, i, A, B, hi, hA => by
    have h12 := hP.1
    have e1 : zI (i : Int) + 1 = zI ((i + 1 : Nat) : Int) := by ((try simp only [zI_lit, zI_neg, zI_add, zI_sub, zI_mul, zI_n]) <;> (first | rfl | (refine zI_eqI ?_; omega)))
    refine brF (by ((try simp only [zI_lit, zI_neg, zI_add, zI_sub, zI_mul, zI_n, ne_eq]) <;> (first | rw [zI_lt (by omega) (by omega)] | rw [zI_le (by omega) (by omega)] | rw [zI_eq (by omega) (by omega)]); try omega)) (x_pbo hx hP (by omega) hA (fun A' B' hA' => x_out (W := VO P h c (i + 1)) hA' hc (fun A2 h2 => ?_)))
    rw [e1, zL_10, zL_mul, ← Int.pow_succ]
    exact x_fr70 hx hP hc hs hk j (i + 1) A2 B' (by omega) h2
theorem x_free {a w : Int} {b n f : Int32} {U V : Int64} {A B : Nat → Int64} (hx : rowsIn 6 np 0 cells P) (hP : okP np P) (hh : 0 ≤ h ∧ h ≤ 30) (hc : c ≤ 30) (ra : (-2147483648 ≤ a ∧ a < 2147483648)) (rw_ : (-2147483648 ≤ w ∧ w < 2147483648)) {K : Int32 → Int64 → Int64 → Int32 → Int32 → Int32 → (Nat → Int64) → (Nat → Int64) → Prop} (h0 : ¬ ((-1 ≤ a ∧ a < np) ∧ 0 ≤ w ∧ w ≤ 1) → K (-2) U V (b + 1) n f A B) (h1 : (-1 ≤ a ∧ a < np) ∧ 0 ≤ w ∧ w ≤ 1 → ∀ A' B', K 1 (zL (frV P h c (a + 1).toNat w) / zL (eg 80 (frV P h c (a + 1).toNat w) ((10 : Int) ^ (a + 1).toNat))) (zL ((10 : Int) ^ (a + 1).toNat) / zL (eg 80 (frV P h c (a + 1).toNat w) ((10 : Int) ^ (a + 1).toNat))) b n f A' B') : pX11_free U V b n f (zI h) (zI c) (zI np) cells A B (zI a) (zI w) K := by
  have h12 := hP.1
  have bad : ¬ ((-1 ≤ a ∧ a < np) ∧ 0 ≤ w ∧ w ≤ 1) → pX11_free_28 K U V b n f A B := fun g => by
    unfold pX11_free_28
    exact (x_counted_bad _ _ _ _).mpr (h0 g)
  have main : -1 ≤ a ∧ a < np → pX11_free_19 (zI h) (zI c) cells K (zI a) (zI w) U V b n f A B := fun g => by
    unfold pX11_free_19
    refine x_wi (b := 0) (c := 1) rfl rfl rw_ (by omega) (by omega) (fun g2 => br1 ?_) (fun g2 => br0 (bad (fun z => g2 z.2)))
    have hv := h1 ⟨g, g2⟩
    obtain ⟨s, es⟩ : ∃ s : Nat, a = (s : Int) - 1 := ⟨(a + 1).toNat, by omega⟩
    rw [show (a + 1).toNat = s by omega] at hv
    have bF := frV_b hP hh hc (i := s) (by omega) w
    have bp := pow10 s (by omega)
    have et := tl_s (P := P) hh hc s
    rw [es]
    refine x_start hh (fun A1 h1 => x_out (W := VO P h c 0) h1 hc (fun A2 h2 => ⟨s + 1, ?_⟩))
    refine x_fr70 (h := h) hx hP hc (s := s) (by omega) (fun A3 B3 h3 => ?_) s 0 A2 B (by omega) h2
    unfold frV at hv bF
    by_cases z : w = 0
    · rw [if_pos z] at hv bF
      refine brT (by ((try simp only [zI_lit, zI_neg, zI_add, zI_sub, zI_mul, zI_n, ne_eq]) <;> (first | rw [zI_lt (by omega) (by omega)] | rw [zI_le (by omega) (by omega)] | rw [zI_eq (by omega) (by omega)]); try omega)) ?_
      unfold pX11_free_132
      exact x_setF bF bp (hv A3 B3)
    · rw [if_neg z] at hv bF
      refine brF (by ((try simp only [zI_lit, zI_neg, zI_add, zI_sub, zI_mul, zI_n, ne_eq]) <;> (first | rw [zI_lt (by omega) (by omega)] | rw [zI_le (by omega) (by omega)] | rw [zI_eq (by omega) (by omega)]); try omega)) (x_up h3 (c := 30) rfl (by omega) ?_)
      unfold pX11_free_132
      rw [zL_sub, show (10 : Int) ^ s - sm (ctf c (VO P h c s)) (30 + 1) = tl P h c s from by
        have : sm (ctf c (VO P h c s)) (30 + 1) = sm (ctf c (VO P h c s)) 31 := rfl
        omega]
      exact x_setF bF bp (hv A3 B3)
  unfold pX11_free
  by_cases q : a = -1
  · exact brT (by rw [q]; rfl) (main (by omega))
  · exact brF (by ((try simp only [zI_lit, zI_neg, zI_add, zI_sub, zI_mul, zI_n, ne_eq]) <;> (first | rw [zI_lt (by omega) (by omega)] | rw [zI_le (by omega) (by omega)] | rw [zI_eq (by omega) (by omega)]); try omega)) (x_has (by omega) ra (fun g => br1 (main (by omega))) (fun g => br0 (bad (fun z => g (by omega)))))
end FX
section FM
variable {np : Nat} {N : Nat → Int32} {P : Nat → Nat → Int} {h : Int} {c : Nat}
theorem m_fr98 (e1 : N 1 = zI c) (hc : c ≤ 30) {X1 X2 X9 : Int32} {X3 X5 X7 U V : Int64} {R : Nat → Int32} {B : Nat → Int64} {kx : Int32 → Int32 → Int64 → Int64 → Int64 → Int32 → Int64 → Int64 → (Nat → Int32) → (Nat → Int64) → (Nat → Int64) → Prop} : ∀ (j i : Nat) (A : Nat → Int64), i + j = c + 1 → (∀ A' : Nat → Int64, (∀ q : Nat, i ≤ q → q ≤ c → A' q = zL 0) → (∀ q : Nat, q < i ∨ c < q → A' q = A q) → kx X1 X2 X3 X5 X7 X9 U V R A' B) → pX12_free_98 N kx (j + 1) X1 X2 X3 X5 X7 X9 (zI i) U V R A B
  | 0, i, A, hi, hk => brT (by rw [c1, e1]; ((try simp only [zI_lit, zI_neg, zI_add, zI_sub, zI_mul, zI_n, ne_eq]) <;> (first | rw [zI_lt (by omega) (by omega)] | rw [zI_le (by omega) (by omega)] | rw [zI_eq (by omega) (by omega)]); try omega)) (hk A (fun q a b => absurd b (by omega)) (fun _ _ => rfl))
  | j + 1, i, A, hi, hk => by
    have e2 : zI (i : Int) + 1 = zI ((i + 1 : Nat) : Int) := by ((try simp only [zI_lit, zI_neg, zI_add, zI_sub, zI_mul, zI_n]) <;> (first | rfl | (refine zI_eqI ?_; omega)))
    have e3 : (zI (i : Int)).toNatClampNeg = i := by ((try simp only [zI_lit, zI_neg, zI_add, zI_sub, zI_mul, zI_n]); rw [zI_clamp (by omega)]; omega)
    refine brF (by rw [c1, e1]; ((try simp only [zI_lit, zI_neg, zI_add, zI_sub, zI_mul, zI_n, ne_eq]) <;> (first | rw [zI_lt (by omega) (by omega)] | rw [zI_le (by omega) (by omega)] | rw [zI_eq (by omega) (by omega)]); try omega)) ⟨by ((try simp only [zI_lit, zI_neg, zI_add, zI_sub, zI_mul, zI_n]); rw [zI_in (by omega)]; omega), ?_⟩
    rw [e2, e3]
    refine m_fr98 e1 hc j (i + 1) _ (by omega) (fun A' f1 f2 => hk A' (fun q a b => ?_) (fun q a => ?_))
    · by_cases d : q = i
      · rw [d, f2 _ (by omega), updL_s]; rfl
      · exact f1 q (by omega) b
    · rw [f2 q (by omega), updL_n _ _ (by omega)]
theorem m_fr76 (e1 : N 1 = zI c) (hc : c ≤ 30) {X1 X2 X9 : Int32} {X3 U V : Int64} {x5 : Int} {R : Nat → Int32} {A B : Nat → Int64} {W : Nat → Int} (hA : lr A W) {kb : Int32 → Int32 → Int64 → Int64 → Int64 → Int32 → Int64 → Int64 → (Nat → Int32) → (Nat → Int64) → (Nat → Int64) → Prop} (hk : ∀ A' : Nat → Int64, lr A' (ctf c W) → kb X1 X2 X3 (zL (x5 + sm W (c + 1))) (zL (sm W (c + 1))) (X9 + 1) U V R A' B) : pX12_free_76 N kb X1 X2 X3 (zL x5) X9 U V R A B := by
  unfold pX12_free_76
  rw [c1, e1]
  refine m_w hA rfl hc ?_
  rw [zL_add]
  refine ⟨c + 2, m_fr98 e1 hc (c + 1) 0 A (by omega) (fun A' f1 f2 => hk A' (fun q hq => ?_))⟩
  unfold ctf
  by_cases d : q ≤ c
  · rw [if_pos d]; exact f1 q (by omega) d
  · rw [if_neg d, f2 q (by omega)]; exact hA q hq
theorem m_fr45 (e1 : N 1 = zI c) (hx : rowsIn 6 np (0 + 6) N P) (hP : okP np P) (hc : c ≤ 30) {X : Int32} {U V : Int64} {R : Nat → Int32} {s : Nat} (hs : s ≤ np) {kx : Int32 → Int64 → Int64 → Int64 → Int64 → Int64 → (Nat → Int32) → (Nat → Int64) → (Nat → Int64) → Prop} (hk : ∀ A B : Nat → Int64, kx X (zL ((10 : Int) ^ s)) (zL (tl P h c s)) (zL (sm (VO P h c s) (c + 1))) U V R A B) : ∀ (j i : Nat) (A B : Nat → Int64), i + j = s → lr A (ctf c (VO P h c i)) → pX12_free_45 N kx (j + 1) (zI ((s : Int) - 1)) X (zL ((10 : Int) ^ i)) (zL (tl P h c i)) (zL (sm (VO P h c i) (c + 1))) (zI i) U V R A B
  | 0, i, A, B, hi, hA => by
    have h12 := hP.1
    rw [show i = s by omega]
    exact brT (by ((try simp only [zI_lit, zI_neg, zI_add, zI_sub, zI_mul, zI_n, ne_eq]) <;> (first | rw [zI_lt (by omega) (by omega)] | rw [zI_le (by omega) (by omega)] | rw [zI_eq (by omega) (by omega)]); try omega)) (hk A B)
  | j + 1, i, A, B, hi, hA => by
    have h12 := hP.1
    have e2 : zI (i : Int) + 1 = zI ((i + 1 : Nat) : Int) := by ((try simp only [zI_lit, zI_neg, zI_add, zI_sub, zI_mul, zI_n]) <;> (first | rfl | (refine zI_eqI ?_; omega)))
    refine brF (by ((try simp only [zI_lit, zI_neg, zI_add, zI_sub, zI_mul, zI_n, ne_eq]) <;> (first | rw [zI_lt (by omega) (by omega)] | rw [zI_le (by omega) (by omega)] | rw [zI_eq (by omega) (by omega)]); try omega)) (brF (by ((try simp only [zI_lit, zI_neg, zI_add, zI_sub, zI_mul, zI_n, ne_eq]) <;> (first | rw [zI_lt (by omega) (by omega)] | rw [zI_le (by omega) (by omega)] | rw [zI_eq (by omega) (by omega)]); try omega)) (m_go hx hP (by omega) hA (fun A' B' hA' => ?_)))
    rw [zL_10, zL_mul, zL_mul, ← Int.pow_succ]
    refine m_fr76 (W := VO P h c (i + 1)) e1 hc hA' (fun A2 h2 => ?_)
    rw [e2]
    exact m_fr45 e1 hx hP hc hs hk j (i + 1) A2 B' (by omega) h2
theorem m_free {a w : Int} {U V : Int64} {R : Nat → Int32} {A B : Nat → Int64} (e0 : N 0 = zI h) (e1 : N 1 = zI c) (e2 : N 2 = zI np) (hx : rowsIn 6 np (0 + 6) N P) (hP : okP np P) (hh : 0 ≤ h ∧ h ≤ 30) (hc : c ≤ 30) (ra : (-2147483648 ≤ a ∧ a < 2147483648)) (rw_ : (-2147483648 ≤ w ∧ w < 2147483648)) {K : Int32 → Int64 → Int64 → (Nat → Int32) → (Nat → Int64) → (Nat → Int64) → Prop} (h0 : ¬ ((-1 ≤ a ∧ a < np) ∧ 0 ≤ w ∧ w ≤ 1) → K (-2) U V (upd R 0 (R 0 + 1)) A B) (h1 : (-1 ≤ a ∧ a < np) ∧ 0 ≤ w ∧ w ≤ 1 → ∀ A' B', K 1 (zL (frV P h c (a + 1).toNat w) / zL (eg 80 (frV P h c (a + 1).toNat w) ((10 : Int) ^ (a + 1).toNat))) (zL ((10 : Int) ^ (a + 1).toNat) / zL (eg 80 (frV P h c (a + 1).toNat w) ((10 : Int) ^ (a + 1).toNat))) R A' B') : pX12_free U V N R A B (zI a) (zI w) K := by
  have h12 := hP.1
  have bad : ¬ ((-1 ≤ a ∧ a < np) ∧ 0 ≤ w ∧ w ≤ 1) → pX12_free_25 K U V R A B := fun g => by
    unfold pX12_free_25
    exact (m_bad _ _).mpr (h0 g)
  unfold pX12_free
  rw [c2, e2]
  refine m_wi (b := -1) (c := (np : Int) - 1) rfl (by ((try simp only [zI_lit, zI_neg, zI_add, zI_sub, zI_mul, zI_n]) <;> (first | rfl | (refine zI_eqI ?_; omega)))) ra (by omega) (by omega) (fun g => br1 ?_) (fun g => br0 (bad (fun z => g (by omega))))
  refine m_wi (b := 0) (c := 1) rfl rfl rw_ (by omega) (by omega) (fun g2 => br1 ?_) (fun g2 => br0 (bad (fun z => g2 z.2)))
  have hv := h1 ⟨by omega, g2⟩
  obtain ⟨s, es⟩ : ∃ s : Nat, a = (s : Int) - 1 := ⟨(a + 1).toNat, by omega⟩
  rw [show (a + 1).toNat = s by omega] at hv
  have bF := frV_b hP hh hc (i := s) (by omega) w
  have bp := pow10 s (by omega)
  rw [es]
  refine m_beg e0 hh (fun A1 h1 => ⟨s + 2, brF (by ((try simp only [zI_lit, zI_neg, zI_add, zI_sub, zI_mul, zI_n, ne_eq]) <;> (first | rw [zI_lt (by omega) (by omega)] | rw [zI_le (by omega) (by omega)] | rw [zI_eq (by omega) (by omega)]); try omega)) (brT (by decide) ?_)⟩)
  rw [zL_0]
  refine m_fr76 (W := VO P h c 0) e1 hc h1 (fun A2 h2 => ?_)
  rw [Int.zero_add, show ((-1 : Int32) + 1) = zI ((0 : Nat) : Int) from by decide]
  refine m_fr45 (h := h) e1 hx hP hc (s := s) (by omega) (fun A3 B3 => ?_) s 0 A2 B (by omega) h2
  unfold frV at hv bF
  by_cases z : w = 0
  · rw [if_pos z] at hv bF
    refine brT (by ((try simp only [zI_lit, zI_neg, zI_add, zI_sub, zI_mul, zI_n, ne_eq]) <;> (first | rw [zI_lt (by omega) (by omega)] | rw [zI_le (by omega) (by omega)] | rw [zI_eq (by omega) (by omega)]); try omega)) ?_
    unfold pX12_free_141
    exact m_tell bF bp (hv A3 B3)
  · rw [if_neg z] at hv bF
    refine brF (by ((try simp only [zI_lit, zI_neg, zI_add, zI_sub, zI_mul, zI_n, ne_eq]) <;> (first | rw [zI_lt (by omega) (by omega)] | rw [zI_le (by omega) (by omega)] | rw [zI_eq (by omega) (by omega)]); try omega)) ?_
    unfold pX12_free_141
    exact m_tell bF bp (hv A3 B3)
end FM
set_option maxHeartbeats 4000000 in
theorem st_25 : ∀ (s_above : Int64) (s_below : Int64) (s_badCalls : Int32) (s_noCalls : Int32) (s_fullCalls : Int32) (s_road_high : Int32) (s_road_low : Int32) (s_road_passers_size : Int32) (s_road_passers_cells : Nat → Int32) (s_road_beasts_size : Int32) (s_road_beasts_cells : Nat → Int32) (s_road_checks_size : Int32) (s_road_checks_cells : Nat → Int32) (s_road_looks_size : Int32) (s_road_looks_cells : Nat → Int32) (s_trial_high : Int32) (s_trial_low : Int32) (s_trial_passers_size : Int32) (s_trial_passers_cells : Nat → Int32) (s_trial_beasts_size : Int32) (s_trial_beasts_cells : Nat → Int32) (s_trial_checks_size : Int32) (s_trial_checks_cells : Nat → Int32) (s_trial_looks_size : Int32) (s_trial_looks_cells : Nat → Int32) (s_text_length : Int32) (s_text_place : Int32) (s_text_next : Int32) (s_text_bytes : Nat → Int32) (s_text_items_size : Int32) (s_text_items_cells : Nat → Int32) (s_hiring_men : Int32) (s_hiring_goal : Int32) (s_hiring_goalMen : Int32) (s_hiring_fewest : Nat → Int32) (s_hiring_gains : Nat → Int32) (s_spread_now : Nat → Int64) (s_spread_later : Nat → Int64) (s_choices : Nat → Int32) (s_ends : Nat → Int32) (s_laterEnds : Nat → Int32) (s1_above : Int64) (s1_below : Int64) (s1_typed : Int32) (s1_at : Int32) (s1_start : Int32) (s1_sort : Int32) (s1_value : Int32) (s1_fault : Int32) (s1_itemsMany : Int32) (s1_goneHeight : Int32) (s1_goneDid : Int32) (s1_now : Nat → Int32) (s1_isKept : Nat → Int32) (s1_refused : Nat → Int32) (s1_text : Nat → Int32) (s1_items : Nat → Int32) (s1_did : Nat → Int32) (s1_fewest : Nat → Int32) (s1_chosen : Nat → Int32) (s1_ends : Nat → Int32) (s1_rows : Nat → Int32) (s1_ways : Nat → Int64) (s1_then : Nat → Int64) (o0 : Option RD) (o1 : Option RD) (v1 v2 v3 v4 : Int32), RelS s_above s_below s_badCalls s_noCalls s_fullCalls s_road_high s_road_low s_road_passers_size s_road_passers_cells s_road_beasts_size s_road_beasts_cells s_road_checks_size s_road_checks_cells s_road_looks_size s_road_looks_cells s_trial_high s_trial_low s_trial_passers_size s_trial_passers_cells s_trial_beasts_size s_trial_beasts_cells s_trial_checks_size s_trial_checks_cells s_trial_looks_size s_trial_looks_cells s_text_length s_text_place s_text_next s_text_bytes s_text_items_size s_text_items_cells s_hiring_men s_hiring_goal s_hiring_goalMen s_hiring_fewest s_hiring_gains s_spread_now s_spread_later s_choices s_ends s_laterEnds s1_above s1_below s1_typed s1_at s1_start s1_sort s1_value s1_fault s1_itemsMany s1_goneHeight s1_goneDid s1_now s1_isKept s1_refused s1_text s1_items s1_did s1_fewest s1_chosen s1_ends s1_rows s1_ways s1_then o0 o1 → pL_25 RelS s_above s_below s_badCalls s_noCalls s_fullCalls s_road_high s_road_low s_road_passers_size s_road_passers_cells s_road_beasts_size s_road_beasts_cells s_road_checks_size s_road_checks_cells s_road_looks_size s_road_looks_cells s_trial_high s_trial_low s_trial_passers_size s_trial_passers_cells s_trial_beasts_size s_trial_beasts_cells s_trial_checks_size s_trial_checks_cells s_trial_looks_size s_trial_looks_cells s_text_length s_text_place s_text_next s_text_bytes s_text_items_size s_text_items_cells s_hiring_men s_hiring_goal s_hiring_goalMen s_hiring_fewest s_hiring_gains s_spread_now s_spread_later s_choices s_ends s_laterEnds s1_above s1_below s1_typed s1_at s1_start s1_sort s1_value s1_fault s1_itemsMany s1_goneHeight s1_goneDid s1_now s1_isKept s1_refused s1_text s1_items s1_did s1_fewest s1_chosen s1_ends s1_rows s1_ways s1_then o0 o1 v1 v2 v3 v4 := by
  intro s_above s_below s_badCalls s_noCalls s_fullCalls s_road_high s_road_low s_road_passers_size s_road_passers_cells s_road_beasts_size s_road_beasts_cells s_road_checks_size s_road_checks_cells s_road_looks_size s_road_looks_cells s_trial_high s_trial_low s_trial_passers_size s_trial_passers_cells s_trial_beasts_size s_trial_beasts_cells s_trial_checks_size s_trial_checks_cells s_trial_looks_size s_trial_looks_cells s_text_length s_text_place s_text_next s_text_bytes s_text_items_size s_text_items_cells s_hiring_men s_hiring_goal s_hiring_goalMen s_hiring_fewest s_hiring_gains s_spread_now s_spread_later s_choices s_ends s_laterEnds s1_above s1_below s1_typed s1_at s1_start s1_sort s1_value s1_fault s1_itemsMany s1_goneHeight s1_goneDid s1_now s1_isKept s1_refused s1_text s1_items s1_did s1_fewest s1_chosen s1_ends s1_rows s1_ways s1_then o0 o1 v1 v2 v3 v4 hR
  obtain ⟨hRd, hI0, hI1, hT, hab, hbe, hb, hn, hfu⟩ := hR
  unfold pL_25
  obtain ⟨h, lo, np, nb, nc, nl, P, B, C, L, hok, hx, hm⟩ := id hRd
  obtain ⟨x1, x2, x3, x4, x5, x6, x7, x8, x9, x10⟩ := id hx
  obtain ⟨m1, m2, m3, m4, m5, m6, m7, m8, m9, m10⟩ := id hm
  dsimp only at x1 x2 x3 x4 x5 x6 x7 x8 x9 x10
  have hP := hok.2.2.1
  have n1 := hP.1
  subst x1 x2 x3 x5 x7 x9
  have hh := hok.1
  have hl := hok.2.1
  obtain ⟨c, rfl⟩ : ∃ c : Nat, lo = (c : Int) := ⟨lo.toNat, by omega⟩
  obtain ⟨y1, rfl, hz1⟩ := zI_ex v1
  obtain ⟨y2, rfl, hz2⟩ := zI_ex v2
  refine x_free x4 hP hh (by omega) hz1 hz2 (fun g => ?_) (fun g A B => ?_)
  · refine m_free m1 m2 m3 m7 hP hh (by omega) hz1 hz2 (fun _ => ?_) (fun g' => absurd g' g)
    exact ⟨fun _ => ⟨hRd, hI0, hI1, hT, hab, hbe, by rw [upd_s, hb], (upd_n _ _ (by omega)).trans hn, (upd_n _ _ (by omega)).trans hfu⟩, fun z => z rfl⟩
  · refine m_free m1 m2 m3 m7 hP hh (by omega) hz1 hz2 (fun g' => absurd g g') (fun _ A' B' => ?_)
    exact ⟨fun _ => ⟨hRd, hI0, hI1, hT, rfl, rfl, hb, hn, hfu⟩, fun z => z rfl⟩
