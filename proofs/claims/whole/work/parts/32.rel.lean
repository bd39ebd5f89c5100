/-! what a road is, and how both sides hold it -/
def okP (np : Nat) (P : Nat → Nat → Int) : Prop := np ≤ 12 ∧ (∀ p, p < np → (0 ≤ P p 0 ∧ P p 0 ≤ 99) ∧ (0 ≤ P p 1 ∧ P p 1 ≤ 5) ∧ (0 ≤ P p 2 ∧ P p 2 ≤ 1) ∧ (0 ≤ P p 3 ∧ P p 3 ≤ 30) ∧ 0 ≤ P p 4 ∧ 0 ≤ P p 5 ∧ P p 4 + P p 5 ≤ 10) ∧ ∀ p q, p ≤ q → q < np → P p 0 ≤ P q 0
def okB (n : Nat) (B : Nat → Nat → Int) : Prop := n ≤ 4 ∧ ∀ p, p < n → (0 ≤ B p 0 ∧ B p 0 ≤ 99) ∧ 0 ≤ B p 1 ∧ B p 1 ≤ 30
def okC (n : Nat) (B : Nat → Nat → Int) : Prop := n ≤ 5 ∧ (∀ p, p < n → (0 ≤ B p 0 ∧ B p 0 ≤ 99) ∧ 0 ≤ B p 1 ∧ B p 1 ≤ B p 2 ∧ B p 2 ≤ 30) ∧ ∀ p q, p < q → q < n → B p 0 < B q 0
def okL (n : Nat) (B : Nat → Nat → Int) : Prop := n ≤ 6 ∧ (∀ p, p < n → (0 ≤ B p 0 ∧ B p 0 ≤ 99) ∧ 0 ≤ B p 1 ∧ B p 1 ≤ 30) ∧ ∀ p q, p ≤ q → q < n → B p 0 ≤ B q 0
/-- rows of w numbers each, from place o on -/
def rowsIn (w n : Nat) (o : Nat) (cells : Nat → Int32) (F : Nat → Nat → Int) : Prop := ∀ p c, p < n → c < w → cells (o + w * p + c) = zI (F p c)
def RoadOk (h lo : Int) (np nb nc nl : Nat) (P B C L : Nat → Nat → Int) : Prop := (0 ≤ h ∧ h ≤ 30) ∧ (0 ≤ lo ∧ lo ≤ 30) ∧ okP np P ∧ okB nb B ∧ okC nc C ∧ okL nl L
def RoadX (h lo : Int) (np nb nc nl : Nat) (P B C L : Nat → Nat → Int) (r : RD) : Prop := r.1 = zI h ∧ r.2.1 = zI lo ∧ r.2.2.1 = zI np ∧ rowsIn 6 np 0 r.2.2.2.1 P ∧ r.2.2.2.2.1 = zI nb ∧ rowsIn 2 nb 0 r.2.2.2.2.2.1 B ∧ r.2.2.2.2.2.2.1 = zI nc ∧ rowsIn 3 nc 0 r.2.2.2.2.2.2.2.1 C ∧ r.2.2.2.2.2.2.2.2.1 = zI nl ∧ rowsIn 2 nl 0 r.2.2.2.2.2.2.2.2.2 L
def RoadM (h lo : Int) (np nb nc nl : Nat) (P B C L : Nat → Nat → Int) (N : Nat → Int32) (o : Nat) : Prop := N o = zI h ∧ N (o + 1) = zI lo ∧ N (o + 2) = zI np ∧ N (o + 3) = zI nb ∧ N (o + 4) = zI nc ∧ N (o + 5) = zI nl ∧ rowsIn 6 np (o + 6) N P ∧ rowsIn 2 nb (o + 78) N B ∧ rowsIn 3 nc (o + 86) N C ∧ rowsIn 2 nl (o + 101) N L
def RoadRel (r : RD) (N : Nat → Int32) (o : Nat) : Prop := ∃ (h lo : Int) (np nb nc nl : Nat) (P B C L : Nat → Nat → Int), RoadOk h lo np nb nc nl P B C L ∧ RoadX h lo np nb nc nl P B C L r ∧ RoadM h lo np nb nc nl P B C L N o
def ImgRel (o : Option RD) (N : Nat → Int32) (k : Nat) (kept : Int32) : Prop := match o with
  | none => kept = 0
  | some r => kept = 1 ∧ RoadRel r N k
def TextRel (len : Int32) (bytes : Nat → Int32) (typed : Int32) (text : Nat → Int32) : Prop := ∃ t : Nat, t ≤ 200 ∧ len = zI t ∧ typed = zI t ∧ ∀ i, i < t → bytes i = text i ∧ -128 ≤ (bytes i).toInt ∧ (bytes i).toInt ≤ 127
theorem rowsIn.congr {w n o : Nat} {c c' : Nat → Int32} {F : Nat → Nat → Int} (h : rowsIn w n o c F) (e : ∀ i, o ≤ i → i < o + w * n → c' i = c i) : rowsIn w n o c' F := fun p q hp hq => by
  rw [e _ (by omega) (by
    have : w * p + w ≤ w * n := by rw [← Nat.mul_succ]; exact Nat.mul_le_mul_left w hp
    omega)]
  exact h p q hp hq
theorem RoadM.congr {h lo : Int} {np nb nc nl : Nat} {P B C L : Nat → Nat → Int} {N N' : Nat → Int32} {o : Nat} (hok : RoadOk h lo np nb nc nl P B C L) (hm : RoadM h lo np nb nc nl P B C L N o) (e : ∀ i, o ≤ i → i < o + 113 → N' i = N i) : RoadM h lo np nb nc nl P B C L N' o := by
  obtain ⟨m1, m2, m3, m4, m5, m6, m7, m8, m9, m10⟩ := hm
  have h1 := hok.2.2.1.1
  have h2 := hok.2.2.2.1.1
  have h3 := hok.2.2.2.2.1.1
  have h4 := hok.2.2.2.2.2.1
  exact ⟨(e _ (by omega) (by omega)).trans m1, (e _ (by omega) (by omega)).trans m2, (e _ (by omega) (by omega)).trans m3, (e _ (by omega) (by omega)).trans m4, (e _ (by omega) (by omega)).trans m5, (e _ (by omega) (by omega)).trans m6, m7.congr (fun i a b => e i (by omega) (by omega)), m8.congr (fun i a b => e i (by omega) (by omega)), m9.congr (fun i a b => e i (by omega) (by omega)), m10.congr (fun i a b => e i (by omega) (by omega))⟩
theorem RoadRel.congr {r : RD} {N N' : Nat → Int32} {o : Nat} (h : RoadRel r N o) (e : ∀ i, o ≤ i → i < o + 113 → N' i = N i) : RoadRel r N' o := by
  obtain ⟨h, lo, np, nb, nc, nl, P, B, C, L, h1, h2, h3⟩ := h
  exact ⟨h, lo, np, nb, nc, nl, P, B, C, L, h1, h2, h3.congr h1 e⟩
theorem ImgRel.congr {o : Option RD} {N N' : Nat → Int32} {k : Nat} {kept : Int32} (h : ImgRel o N k kept) (e : ∀ i, k ≤ i → i < k + 113 → N' i = N i) : ImgRel o N' k kept := by
  cases o with
  | none => exact h
  | some r => exact ⟨h.1, h.2.congr e⟩
def RelS : KBT := fun s_above s_below s_badCalls s_noCalls s_fullCalls s_road_high s_road_low s_road_passers_size s_road_passers_cells s_road_beasts_size s_road_beasts_cells s_road_checks_size s_road_checks_cells s_road_looks_size s_road_looks_cells s_trial_high s_trial_low s_trial_passers_size s_trial_passers_cells s_trial_beasts_size s_trial_beasts_cells s_trial_checks_size s_trial_checks_cells s_trial_looks_size s_trial_looks_cells s_text_length s_text_place s_text_next s_text_bytes s_text_items_size s_text_items_cells s_hiring_men s_hiring_goal s_hiring_goalMen s_hiring_fewest s_hiring_gains s_spread_now s_spread_later s_choices s_ends s_laterEnds s1_above s1_below s1_typed s1_at s1_start s1_sort s1_value s1_fault s1_itemsMany s1_goneHeight s1_goneDid s1_now s1_isKept s1_refused s1_text s1_items s1_did s1_fewest s1_chosen s1_ends s1_rows s1_ways s1_then o0 o1 => RoadRel (s_road_high, s_road_low, s_road_passers_size, s_road_passers_cells, s_road_beasts_size, s_road_beasts_cells, s_road_checks_size, s_road_checks_cells, s_road_looks_size, s_road_looks_cells) s1_now 0 ∧ ImgRel o0 s1_now 113 (s1_isKept 0) ∧ ImgRel o1 s1_now 226 (s1_isKept 1) ∧ TextRel s_text_length s_text_bytes s1_typed s1_text ∧ s_above = s1_above ∧ s_below = s1_below ∧ s1_refused 0 = s_badCalls ∧ s1_refused 1 = s_noCalls ∧ s1_refused 2 = s_fullCalls
