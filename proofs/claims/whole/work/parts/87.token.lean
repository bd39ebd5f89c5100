/-! the text: bytes and tokens, on both sides -/
def run (f : Nat → Bool) : Nat → Nat → Nat
  | 0, i => i
  | n + 1, i => if f i = true then run f n (i + 1) else i
theorem run_b (f : Nat → Bool) : ∀ n i : Nat, i ≤ run f n i ∧ run f n i ≤ i + n
  | 0, i => ⟨Nat.le_refl i, Nat.le_refl i⟩
  | n + 1, i => by
    have h := run_b f n (i + 1)
    unfold run
    split <;> omega
theorem run_all (f : Nat → Bool) : ∀ n i x : Nat, i ≤ x → x < run f n i → f x = true
  | 0, i, x, h1, h2 => by
    have h3 : x < i := h2
    omega
  | n + 1, i, x, h1, h2 => by
    unfold run at h2
    by_cases c : f i = true
    · rw [if_pos c] at h2
      by_cases d : x = i
      · rw [d]; exact c
      · exact run_all f n (i + 1) x (by omega) h2
    · rw [if_neg c] at h2; omega
def isS (v : Nat → Int) (i : Nat) : Bool := decide (v i = 32)
def isA (v : Nat → Int) (i : Nat) : Bool := decide (97 ≤ v i ∧ v i ≤ 122)
def isN (v : Nat → Int) (i : Nat) : Bool := decide (48 ≤ v i ∧ v i ≤ 57)
theorem isS_i {v : Nat → Int} {i : Nat} : isS v i = true ↔ v i = 32 := decide_eq_true_iff
theorem isA_i {v : Nat → Int} {i : Nat} : isA v i = true ↔ 97 ≤ v i ∧ v i ≤ 122 := decide_eq_true_iff
theorem isN_i {v : Nat → Int} {i : Nat} : isN v i = true ↔ 48 ≤ v i ∧ v i ≤ 57 := decide_eq_true_iff
def qp (v : Nat → Int) (t i : Nat) : Nat := run (isS v) (t - i) i
def qe (v : Nat → Int) (t i : Nat) : Nat := if isA v (qp v t i) = true then run (isA v) (t - (qp v t i + 1)) (qp v t i + 1) else if isN v (qp v t i) = true then run (isN v) (t - (qp v t i + 1)) (qp v t i + 1) else qp v t i + 1
def qs (v : Nat → Int) (t i : Nat) : Int := if t ≤ qp v t i then 0 else if isA v (qp v t i) = true then 1 else if isN v (qp v t i) = true then (if qe v t i ≤ qp v t i + 2 then 2 else 4) else if v (qp v t i) = 59 then 3 else 4
theorem qp_b (v : Nat → Int) {t i : Nat} (hi : i ≤ t) : i ≤ qp v t i ∧ qp v t i ≤ t := by
  have h := run_b (isS v) (t - i) i
  unfold qp
  omega
theorem qs_r (v : Nat → Int) (t i : Nat) : 0 ≤ qs v t i ∧ qs v t i ≤ 4 := by
  unfold qs
  repeat' split
  all_goals omega
theorem qs_0 {v : Nat → Int} {t i : Nat} : qs v t i = 0 ↔ t ≤ qp v t i := by
  unfold qs
  by_cases c : t ≤ qp v t i
  · rw [if_pos c]; exact ⟨fun _ => c, fun _ => rfl⟩
  · rw [if_neg c]
    constructor
    · intro h
      repeat' split at h
      all_goals omega
    · intro h; exact absurd h c
theorem qe_b (v : Nat → Int) {t i : Nat} (hi : i ≤ t) (h : qs v t i ≠ 0) : qp v t i < qe v t i ∧ qe v t i ≤ t := by
  have h1 := qp_b v hi
  have h2 : ¬ t ≤ qp v t i := fun z => h (qs_0.2 z)
  have h3 := run_b (isA v) (t - (qp v t i + 1)) (qp v t i + 1)
  have h4 := run_b (isN v) (t - (qp v t i + 1)) (qp v t i + 1)
  unfold qe
  repeat' split
  all_goals omega
theorem qs_1 {v : Nat → Int} {t i : Nat} (h : qs v t i = 1) : qp v t i < t ∧ isA v (qp v t i) = true := by
  unfold qs at h
  by_cases c : t ≤ qp v t i
  · rw [if_pos c] at h; omega
  · rw [if_neg c] at h
    by_cases d : isA v (qp v t i) = true
    · exact ⟨by omega, d⟩
    · rw [if_neg d] at h
      repeat' split at h
      all_goals omega
theorem qs_2 {v : Nat → Int} {t i : Nat} (h : qs v t i = 2) : qp v t i < t ∧ isN v (qp v t i) = true ∧ qe v t i ≤ qp v t i + 2 := by
  unfold qs at h
  by_cases c : t ≤ qp v t i
  · rw [if_pos c] at h; omega
  · rw [if_neg c] at h
    by_cases d : isA v (qp v t i) = true
    · rw [if_pos d] at h; omega
    · rw [if_neg d] at h
      by_cases e : isN v (qp v t i) = true
      · rw [if_pos e] at h
        by_cases g : qe v t i ≤ qp v t i + 2
        · exact ⟨by omega, e, g⟩
        · rw [if_neg g] at h; omega
      · rw [if_neg e] at h
        repeat' split at h
        all_goals omega
/-- the letters of a word, the figures of a number -/
theorem qA {v : Nat → Int} {t i : Nat} (hi : i ≤ t) (h : qs v t i = 1) : ∀ k : Nat, k < qe v t i - qp v t i → 97 ≤ v (qp v t i + k) ∧ v (qp v t i + k) ≤ 122 := fun k hk => by
  obtain ⟨h1, h2⟩ := qs_1 h
  have e : qe v t i = run (isA v) (t - (qp v t i + 1)) (qp v t i + 1) := by unfold qe; rw [if_pos h2]
  by_cases z : k = 0
  · rw [z, Nat.add_zero]; exact isA_i.1 h2
  · exact isA_i.1 (run_all (isA v) (t - (qp v t i + 1)) (qp v t i + 1) (qp v t i + k) (by omega) (by rw [← e]; omega))
theorem qN {v : Nat → Int} {t i : Nat} (hi : i ≤ t) (h : qs v t i = 2) : ∀ k : Nat, k < qe v t i - qp v t i → 48 ≤ v (qp v t i + k) ∧ v (qp v t i + k) ≤ 57 := fun k hk => by
  obtain ⟨h1, h2, h3⟩ := qs_2 h
  have n2 : ¬ isA v (qp v t i) = true := fun z => by
    have a := isA_i.1 z
    have b := isN_i.1 h2
    omega
  have e : qe v t i = run (isN v) (t - (qp v t i + 1)) (qp v t i + 1) := by unfold qe; rw [if_neg n2, if_pos h2]
  by_cases z : k = 0
  · rw [z, Nat.add_zero]; exact isN_i.1 h2
  · exact isN_i.1 (run_all (isN v) (t - (qp v t i + 1)) (qp v t i + 1) (qp v t i + k) (by omega) (by rw [← e]; omega))
section TXX
variable {B : Nat → Int32} {v : Nat → Int} {t : Nat}
theorem x_by (ht : t ≤ 200) (hB : ∀ i, i < t → B i = zI (v i)) {i : Nat} (hi : i < t) {X : Int32} (eX : X = zI i) {k : Int32 → Prop} (hk : k (zI (v i))) : pX6_byteAt B X k := by
  have e3 : (zI (i : Int)).toNatClampNeg = i := by ((try simp only [zI_lit, zI_neg, zI_add, zI_sub, zI_mul, zI_n]); rw [zI_clamp (by omega)]; omega)
  unfold pX6_byteAt
  rw [eX]
  refine brF (by ((try simp only [zI_lit, zI_neg, zI_add, zI_sub, zI_mul, zI_n, ne_eq]) <;> (first | rw [zI_lt (by omega) (by omega)] | rw [zI_le (by omega) (by omega)] | rw [zI_eq (by omega) (by omega)]); try omega)) (brF (by ((try simp only [zI_lit, zI_neg, zI_add, zI_sub, zI_mul, zI_n, ne_eq]) <;> (first | rw [zI_lt (by omega) (by omega)] | rw [zI_le (by omega) (by omega)] | rw [zI_eq (by omega) (by omega)]); try omega)) ⟨by ((try simp only [zI_lit, zI_neg, zI_add, zI_sub, zI_mul, zI_n]); rw [zI_in (by omega)]; omega), ?_⟩)
  rw [e3, hB i hi]
  exact hk
theorem x_isA {z : Int} (hz : -128 ≤ z ∧ z ≤ 127) {k : Int32 → Prop} (h1 : 97 ≤ z ∧ z ≤ 122 → k 1) (h0 : ¬ (97 ≤ z ∧ z ≤ 122) → k 0) : pX6_isLetter (zI z) k := by
  unfold pX6_isLetter
  by_cases a : z < 97
  · exact brT (by ((try simp only [zI_lit, zI_neg, zI_add, zI_sub, zI_mul, zI_n, ne_eq]) <;> (first | rw [zI_lt (by omega) (by omega)] | rw [zI_le (by omega) (by omega)] | rw [zI_eq (by omega) (by omega)]); try omega)) (h0 (by omega))
  · refine brF (by ((try simp only [zI_lit, zI_neg, zI_add, zI_sub, zI_mul, zI_n, ne_eq]) <;> (first | rw [zI_lt (by omega) (by omega)] | rw [zI_le (by omega) (by omega)] | rw [zI_eq (by omega) (by omega)]); try omega)) ?_
    by_cases b : 122 < z
    · exact brT (by ((try simp only [zI_lit, zI_neg, zI_add, zI_sub, zI_mul, zI_n, ne_eq]) <;> (first | rw [zI_lt (by omega) (by omega)] | rw [zI_le (by omega) (by omega)] | rw [zI_eq (by omega) (by omega)]); try omega)) (h0 (by omega))
    · exact brF (by ((try simp only [zI_lit, zI_neg, zI_add, zI_sub, zI_mul, zI_n, ne_eq]) <;> (first | rw [zI_lt (by omega) (by omega)] | rw [zI_le (by omega) (by omega)] | rw [zI_eq (by omega) (by omega)]); try omega)) (h1 (by omega))
theorem x_isN {z : Int} (hz : -128 ≤ z ∧ z ≤ 127) {k : Int32 → Prop} (h1 : 48 ≤ z ∧ z ≤ 57 → k 1) (h0 : ¬ (48 ≤ z ∧ z ≤ 57) → k 0) : pX6_isFigure (zI z) k := by
  unfold pX6_isFigure
  by_cases a : z < 48
  · exact brT (by ((try simp only [zI_lit, zI_neg, zI_add, zI_sub, zI_mul, zI_n, ne_eq]) <;> (first | rw [zI_lt (by omega) (by omega)] | rw [zI_le (by omega) (by omega)] | rw [zI_eq (by omega) (by omega)]); try omega)) (h0 (by omega))
  · refine brF (by ((try simp only [zI_lit, zI_neg, zI_add, zI_sub, zI_mul, zI_n, ne_eq]) <;> (first | rw [zI_lt (by omega) (by omega)] | rw [zI_le (by omega) (by omega)] | rw [zI_eq (by omega) (by omega)]); try omega)) ?_
    by_cases b : 57 < z
    · exact brT (by ((try simp only [zI_lit, zI_neg, zI_add, zI_sub, zI_mul, zI_n, ne_eq]) <;> (first | rw [zI_lt (by omega) (by omega)] | rw [zI_le (by omega) (by omega)] | rw [zI_eq (by omega) (by omega)]); try omega)) (h0 (by omega))
    · exact brF (by ((try simp only [zI_lit, zI_neg, zI_add, zI_sub, zI_mul, zI_n, ne_eq]) <;> (first | rw [zI_lt (by omega) (by omega)] | rw [zI_le (by omega) (by omega)] | rw [zI_eq (by omega) (by omega)]); try omega)) (h1 (by omega))
theorem x_n8 (ht : t ≤ 200) (hB : ∀ i, i < t → B i = zI (v i)) (hv : ∀ i, i < t → -128 ≤ v i ∧ v i ≤ 127) {kx : Int32 → Int32 → Prop} {nx : Int32} : ∀ n i : Nat, i ≤ t → n = t - i → kx (zI (run (isS v) n i)) nx → pX6_nextToken_8 (zI t) B kx (n + 1) (zI i) nx
  | 0, i, hi, hn, hk => brT (by ((try simp only [zI_lit, zI_neg, zI_add, zI_sub, zI_mul, zI_n, ne_eq]) <;> (first | rw [zI_lt (by omega) (by omega)] | rw [zI_le (by omega) (by omega)] | rw [zI_eq (by omega) (by omega)]); try omega)) hk
  | n + 1, i, hi, hn, hk => by
    have e1 : zI (i : Int) + 1 = zI ((i + 1 : Nat) : Int) := by ((try simp only [zI_lit, zI_neg, zI_add, zI_sub, zI_mul, zI_n]) <;> (first | rfl | (refine zI_eqI ?_; omega)))
    have hvi := hv i (by omega)
    unfold run at hk
    refine brF (by ((try simp only [zI_lit, zI_neg, zI_add, zI_sub, zI_mul, zI_n, ne_eq]) <;> (first | rw [zI_lt (by omega) (by omega)] | rw [zI_le (by omega) (by omega)] | rw [zI_eq (by omega) (by omega)]); try omega)) (x_by ht hB (i := i) (by omega) rfl ?_)
    by_cases c : v i = 32
    · rw [if_pos (isS_i.2 c)] at hk
      refine brT (by ((try simp only [zI_lit, zI_neg, zI_add, zI_sub, zI_mul, zI_n, ne_eq]) <;> (first | rw [zI_lt (by omega) (by omega)] | rw [zI_le (by omega) (by omega)] | rw [zI_eq (by omega) (by omega)]); try omega)) ?_
      rw [e1]
      exact x_n8 ht hB hv n (i + 1) (by omega) (by omega) hk
    · rw [if_neg (fun z => c (isS_i.1 z))] at hk
      exact brF (by ((try simp only [zI_lit, zI_neg, zI_add, zI_sub, zI_mul, zI_n, ne_eq]) <;> (first | rw [zI_lt (by omega) (by omega)] | rw [zI_le (by omega) (by omega)] | rw [zI_eq (by omega) (by omega)]); try omega)) hk
theorem x_n84 (ht : t ≤ 200) (hB : ∀ i, i < t → B i = zI (v i)) (hv : ∀ i, i < t → -128 ≤ v i ∧ v i ≤ 127) {kx : Int32 → Int32 → Prop} {pl : Int32} : ∀ n i : Nat, i ≤ t → n = t - i → kx pl (zI (run (isA v) n i)) → pX6_nextToken_84 (zI t) B kx (n + 1) pl (zI i)
  | 0, i, hi, hn, hk => brT (by ((try simp only [zI_lit, zI_neg, zI_add, zI_sub, zI_mul, zI_n, ne_eq]) <;> (first | rw [zI_lt (by omega) (by omega)] | rw [zI_le (by omega) (by omega)] | rw [zI_eq (by omega) (by omega)]); try omega)) hk
  | n + 1, i, hi, hn, hk => by
    have e1 : zI (i : Int) + 1 = zI ((i + 1 : Nat) : Int) := by ((try simp only [zI_lit, zI_neg, zI_add, zI_sub, zI_mul, zI_n]) <;> (first | rfl | (refine zI_eqI ?_; omega)))
    have hvi := hv i (by omega)
    unfold run at hk
    refine brF (by ((try simp only [zI_lit, zI_neg, zI_add, zI_sub, zI_mul, zI_n, ne_eq]) <;> (first | rw [zI_lt (by omega) (by omega)] | rw [zI_le (by omega) (by omega)] | rw [zI_eq (by omega) (by omega)]); try omega)) (x_by ht hB (i := i) (by omega) rfl (x_isA hvi (fun c => br1 ?_) (fun c => br0 ?_)))
    · rw [if_pos (isA_i.2 c)] at hk
      rw [e1]
      exact x_n84 ht hB hv n (i + 1) (by omega) (by omega) hk
    · rw [if_neg (fun z => c (isA_i.1 z))] at hk
      exact hk
theorem x_n131 (ht : t ≤ 200) (hB : ∀ i, i < t → B i = zI (v i)) (hv : ∀ i, i < t → -128 ≤ v i ∧ v i ≤ 127) {kx : Int32 → Int32 → Prop} {pl : Int32} : ∀ n i : Nat, i ≤ t → n = t - i → kx pl (zI (run (isN v) n i)) → pX6_nextToken_131 (zI t) B kx (n + 1) pl (zI i)
  | 0, i, hi, hn, hk => brT (by ((try simp only [zI_lit, zI_neg, zI_add, zI_sub, zI_mul, zI_n, ne_eq]) <;> (first | rw [zI_lt (by omega) (by omega)] | rw [zI_le (by omega) (by omega)] | rw [zI_eq (by omega) (by omega)]); try omega)) hk
  | n + 1, i, hi, hn, hk => by
    have e1 : zI (i : Int) + 1 = zI ((i + 1 : Nat) : Int) := by ((try simp only [zI_lit, zI_neg, zI_add, zI_sub, zI_mul, zI_n]) <;> (first | rfl | (refine zI_eqI ?_; omega)))
    have hvi := hv i (by omega)
    unfold run at hk
    refine brF (by ((try simp only [zI_lit, zI_neg, zI_add, zI_sub, zI_mul, zI_n, ne_eq]) <;> (first | rw [zI_lt (by omega) (by omega)] | rw [zI_le (by omega) (by omega)] | rw [zI_eq (by omega) (by omega)]); try omega)) (x_by ht hB (i := i) (by omega) rfl (x_isN hvi (fun c => br1 ?_) (fun c => br0 ?_)))
    · rw [if_pos (isN_i.2 c)] at hk
      rw [e1]
      exact x_n131 ht hB hv n (i + 1) (by omega) (by omega) hk
    · rw [if_neg (fun z => c (isN_i.1 z))] at hk
      exact hk
theorem x_next (ht : t ≤ 200) (hB : ∀ i, i < t → B i = zI (v i)) (hv : ∀ i, i < t → -128 ≤ v i ∧ v i ≤ 127) {i : Nat} (hi : i ≤ t) {pl : Int32} {k : Int32 → Int32 → Int32 → Prop} (hk : ∀ E : Int32, (qs v t i ≠ 0 → E = zI (qe v t i)) → k (zI (qs v t i)) (zI (qp v t i)) E) : pX6_nextToken (zI t) pl (zI i) B k := by
  have hp := qp_b v hi
  have e1 : zI (qp v t i : Int) + 1 = zI ((qp v t i + 1 : Nat) : Int) := by ((try simp only [zI_lit, zI_neg, zI_add, zI_sub, zI_mul, zI_n]) <;> (first | rfl | (refine zI_eqI ?_; omega)))
  unfold pX6_nextToken
  refine ⟨t - i + 1, x_n8 ht hB hv (t - i) i hi rfl ?_⟩
  show pX6_nextToken_45 (zI t) B k (zI (qp v t i)) (zI i)
  unfold pX6_nextToken_45
  rw [e1]
  by_cases c : t ≤ qp v t i
  · refine brF (by ((try simp only [zI_lit, zI_neg, zI_add, zI_sub, zI_mul, zI_n, ne_eq]) <;> (first | rw [zI_lt (by omega) (by omega)] | rw [zI_le (by omega) (by omega)] | rw [zI_eq (by omega) (by omega)]); try omega)) ?_
    have e := qs_0.2 c
    have q := hk (zI ((qp v t i + 1 : Nat) : Int)) (fun z => absurd e z)
    rw [e] at q
    exact q
  · refine brT (by ((try simp only [zI_lit, zI_neg, zI_add, zI_sub, zI_mul, zI_n, ne_eq]) <;> (first | rw [zI_lt (by omega) (by omega)] | rw [zI_le (by omega) (by omega)] | rw [zI_eq (by omega) (by omega)]); try omega)) (x_by ht hB (i := qp v t i) (by omega) rfl ?_)
    have hvp := hv (qp v t i) (by omega)
    refine x_isA hvp (fun a => br1 ?_) (fun a => br0 ?_)
    · have aa := isA_i.2 a
      have e : qs v t i = 1 := by unfold qs; rw [if_neg c, if_pos aa]
      have ee : qe v t i = run (isA v) (t - (qp v t i + 1)) (qp v t i + 1) := by unfold qe; rw [if_pos aa]
      have q := hk (zI (qe v t i)) (fun _ => rfl)
      rw [e, ee] at q
      exact ⟨_, x_n84 ht hB hv (t - (qp v t i + 1)) (qp v t i + 1) (by omega) rfl q⟩
    · have aa : ¬ isA v (qp v t i) = true := fun z => a (isA_i.1 z)
      refine x_isN hvp (fun b => br1 ?_) (fun b => br0 ?_)
      · have bb := isN_i.2 b
        have ee : qe v t i = run (isN v) (t - (qp v t i + 1)) (qp v t i + 1) := by unfold qe; rw [if_neg aa, if_pos bb]
        have q := hk (zI (qe v t i)) (fun _ => rfl)
        have rb := run_b (isN v) (t - (qp v t i + 1)) (qp v t i + 1)
        refine ⟨_, x_n131 ht hB hv (t - (qp v t i + 1)) (qp v t i + 1) (by omega) rfl ?_⟩
        rw [← ee] at rb ⊢
        unfold pX6_nextToken_169
        by_cases d : qe v t i ≤ qp v t i + 2
        · have e : qs v t i = 2 := by unfold qs; rw [if_neg c, if_neg aa, if_pos bb, if_pos d]
          rw [e] at q
          exact brF (by ((try simp only [zI_lit, zI_neg, zI_add, zI_sub, zI_mul, zI_n, ne_eq]) <;> (first | rw [zI_lt (by omega) (by omega)] | rw [zI_le (by omega) (by omega)] | rw [zI_eq (by omega) (by omega)]); try omega)) q
        · have e : qs v t i = 4 := by unfold qs; rw [if_neg c, if_neg aa, if_pos bb, if_neg d]
          rw [e] at q
          exact brT (by ((try simp only [zI_lit, zI_neg, zI_add, zI_sub, zI_mul, zI_n, ne_eq]) <;> (first | rw [zI_lt (by omega) (by omega)] | rw [zI_le (by omega) (by omega)] | rw [zI_eq (by omega) (by omega)]); try omega)) q
      · have bb : ¬ isN v (qp v t i) = true := fun z => b (isN_i.1 z)
        have ee : qe v t i = qp v t i + 1 := by unfold qe; rw [if_neg aa, if_neg bb]
        have q := hk (zI (qe v t i)) (fun _ => rfl)
        rw [ee] at q
        by_cases d : v (qp v t i) = 59
        · have e : qs v t i = 3 := by unfold qs; rw [if_neg c, if_neg aa, if_neg bb, if_pos d]
          rw [e] at q
          exact brT (by ((try simp only [zI_lit, zI_neg, zI_add, zI_sub, zI_mul, zI_n, ne_eq]) <;> (first | rw [zI_lt (by omega) (by omega)] | rw [zI_le (by omega) (by omega)] | rw [zI_eq (by omega) (by omega)]); try omega)) q
        · have e : qs v t i = 4 := by unfold qs; rw [if_neg c, if_neg aa, if_neg bb, if_neg d]
          rw [e] at q
          exact brF (by ((try simp only [zI_lit, zI_neg, zI_add, zI_sub, zI_mul, zI_n, ne_eq]) <;> (first | rw [zI_lt (by omega) (by omega)] | rw [zI_le (by omega) (by omega)] | rw [zI_eq (by omega) (by omega)]); try omega)) q
end TXX
/-! numbers and words -/
def nm (v : Nat → Int) (p : Nat) : Nat → Int
  | 0 => 0
  | k + 1 => 10 * nm v p k + v (p + k) - 48
def cd (v : Nat → Int) (p : Nat) : Nat → Int
  | 0 => 0
  | k + 1 => 27 * cd v p k + v (p + k) - 96
def ck (v : Nat → Int) (p k : Nat) : Int := if k ≤ 6 then cd v p k else 0
def mg (c : Int) : Int := if c = 453774 then 0 else if c = 230501934 then 1 else if c = 1162559 then 2 else if c = 1755524 then 3 else if c = 247547 then 4 else if c = 1890386 then 5 else 9
def wd (v : Nat → Int) (t i : Nat) : Int := mg (ck v (qp v t i) (qe v t i - qp v t i))
def qn (v : Nat → Int) (t i : Nat) : Int := nm v (qp v t i) (qe v t i - qp v t i)
theorem mg_r (c : Int) : (0 ≤ mg c ∧ mg c ≤ 5) ∨ mg c = 9 := by
  unfold mg
  repeat' split
  all_goals omega
theorem qn_b {v : Nat → Int} {t i : Nat} (hi : i ≤ t) (h : qs v t i = 2) : 0 ≤ qn v t i ∧ qn v t i ≤ 99 := by
  obtain ⟨h1, h2, h3⟩ := qs_2 h
  have h4 := qe_b v hi (by omega)
  have h5 := qN hi h
  unfold qn
  rcases (show qe v t i - qp v t i = 1 ∨ qe v t i - qp v t i = 2 by omega) with e | e
  · rw [e]
    have b0 := h5 0 (by omega)
    show 0 ≤ 10 * 0 + v (qp v t i + 0) - 48 ∧ 10 * 0 + v (qp v t i + 0) - 48 ≤ 99
    omega
  · rw [e]
    have b0 := h5 0 (by omega)
    have b1 := h5 1 (by omega)
    show 0 ≤ 10 * (10 * 0 + v (qp v t i + 0) - 48) + v (qp v t i + 1) - 48 ∧ 10 * (10 * 0 + v (qp v t i + 0) - 48) + v (qp v t i + 1) - 48 ≤ 99
    omega
theorem cd_b {v : Nat → Int} {p n : Nat} (h : ∀ k, k < n → 97 ≤ v (p + k) ∧ v (p + k) ≤ 122) : ∀ k : Nat, k ≤ n → 0 ≤ cd v p k ∧ cd v p k ≤ (27 : Int) ^ k - 1
  | 0, _ => by
    rw [Int.pow_zero]
    show 0 ≤ (0 : Int) ∧ (0 : Int) ≤ 1 - 1
    omega
  | k + 1, hk => by
    have ih := cd_b h k (by omega)
    have hv := h k (by omega)
    rw [Int.pow_succ]
    show 0 ≤ 27 * cd v p k + v (p + k) - 96 ∧ 27 * cd v p k + v (p + k) - 96 ≤ _
    omega
theorem pow27 : ∀ k : Nat, k ≤ 6 → (27 : Int) ^ k ≤ 387420489 := by decide
theorem ck_b {v : Nat → Int} {p n : Nat} (h : ∀ k, k < n → 97 ≤ v (p + k) ∧ v (p + k) ≤ 122) {k : Nat} (hk : k ≤ n) : 0 ≤ ck v p k ∧ ck v p k ≤ 387420489 := by
  unfold ck
  split
  · rename_i g
    have h1 := cd_b h k hk
    have h2 := pow27 k g
    omega
  · omega
/-- the words: how long, which letters -/
def wl (w : Nat) : Nat := strLen.getD w 0
def wc (w k : Nat) : Int := ((strByt.getD w []).getD k 0).toInt
def wm (v : Nat → Int) (p n w : Nat) : Prop := n = wl w ∧ ∀ k, k < n → v (p + k) = wc w k
def wk6 (w : Nat) : Int := if w = 0 then 453774 else if w = 1 then 230501934 else if w = 2 then 1162559 else if w = 3 then 1755524 else if w = 4 then 247547 else 1890386
theorem wm_i {v : Nat → Int} {p n w : Nat} (hw : w < 6) (h : ∀ k, k < n → 97 ≤ v (p + k) ∧ v (p + k) ≤ 122) : wm v p n w ↔ ck v p n = wk6 w := by
  have a1 : wc 0 0 = 119 ∧ wc 0 1 = 97 ∧ wc 0 2 = 108 ∧ wc 0 3 = 108 := by decide
  have a2 : wc 1 0 = 112 ∧ wc 1 1 = 97 ∧ wc 1 2 = 115 ∧ wc 1 3 = 115 ∧ wc 1 4 = 101 ∧ wc 1 5 = 114 := by decide
  have a3 : wc 2 0 = 98 ∧ wc 2 1 = 101 ∧ wc 2 2 = 97 ∧ wc 2 3 = 115 ∧ wc 2 4 = 116 := by decide
  have a4 : wc 3 0 = 99 ∧ wc 3 1 = 104 ∧ wc 3 2 = 101 ∧ wc 3 3 = 99 ∧ wc 3 4 = 107 := by decide
  have a5 : wc 4 0 = 108 ∧ wc 4 1 = 111 ∧ wc 4 2 = 111 ∧ wc 4 3 = 107 := by decide
  have a6 : wc 5 0 = 99 ∧ wc 5 1 = 111 ∧ wc 5 2 = 97 ∧ wc 5 3 = 99 ∧ wc 5 4 = 104 := by decide
  have l0 : wl 0 = 4 ∧ wl 1 = 6 ∧ wl 2 = 5 ∧ wl 3 = 5 ∧ wl 4 = 4 ∧ wl 5 = 5 := by decide
  have k0 : wk6 0 = 453774 ∧ wk6 1 = 230501934 ∧ wk6 2 = 1162559 ∧ wk6 3 = 1755524 ∧ wk6 4 = 247547 ∧ wk6 5 = 1890386 := by decide
  have hw6 : w = 0 ∨ w = 1 ∨ w = 2 ∨ w = 3 ∨ w = 4 ∨ w = 5 := by omega
  unfold wm ck
  by_cases g : n ≤ 6
  · rw [if_pos g]
    rcases (show n = 0 ∨ n = 1 ∨ n = 2 ∨ n = 3 ∨ n = 4 ∨ n = 5 ∨ n = 6 by omega) with e | e | e | e | e | e | e
    · subst e
      constructor
      · intro z; rcases hw6 with y | y | y | y | y | y <;> (rw [y] at z; omega)
      · intro z
        have z' : (0 : Int) = wk6 w := z
        rcases hw6 with y | y | y | y | y | y <;> (rw [y] at z'; omega)
    · subst e
      have b0 := h 0 (by omega)
      constructor
      · intro z; rcases hw6 with y | y | y | y | y | y <;> (rw [y] at z; omega)
      · intro z
        have z' : 27 * (0 : Int) + v (p + 0) - 96 = wk6 w := z
        rcases hw6 with y | y | y | y | y | y <;> (rw [y] at z'; omega)
    · subst e
      have b0 := h 0 (by omega)
      have b1 := h 1 (by omega)
      constructor
      · intro z; rcases hw6 with y | y | y | y | y | y <;> (rw [y] at z; omega)
      · intro z
        have z' : 27 * (27 * (0 : Int) + v (p + 0) - 96) + v (p + 1) - 96 = wk6 w := z
        rcases hw6 with y | y | y | y | y | y <;> (rw [y] at z'; omega)
    · subst e
      have b0 := h 0 (by omega)
      have b1 := h 1 (by omega)
      have b2 := h 2 (by omega)
      constructor
      · intro z; rcases hw6 with y | y | y | y | y | y <;> (rw [y] at z; omega)
      · intro z
        have z' : 27 * (27 * (27 * (0 : Int) + v (p + 0) - 96) + v (p + 1) - 96) + v (p + 2) - 96 = wk6 w := z
        rcases hw6 with y | y | y | y | y | y <;> (rw [y] at z'; omega)
    · subst e
      have b0 := h 0 (by omega)
      have b1 := h 1 (by omega)
      have b2 := h 2 (by omega)
      have b3 := h 3 (by omega)
      have z0 : cd v p 4 = 27 * (27 * (27 * (27 * (0 : Int) + v (p + 0) - 96) + v (p + 1) - 96) + v (p + 2) - 96) + v (p + 3) - 96 := rfl
      rw [z0]
      constructor
      · intro z
        have y0 := z.2 0 (by omega)
        have y1 := z.2 1 (by omega)
        have y2 := z.2 2 (by omega)
        have y3 := z.2 3 (by omega)
        have y4 := z.1
        rcases hw6 with y | y | y | y | y | y <;> (rw [y] at y0 y1 y2 y3 y4 ⊢; omega)
      · intro z
        have q : (w = 0 ∧ v (p + 0) = 119 ∧ v (p + 1) = 97 ∧ v (p + 2) = 108 ∧ v (p + 3) = 108) ∨ (w = 4 ∧ v (p + 0) = 108 ∧ v (p + 1) = 111 ∧ v (p + 2) = 111 ∧ v (p + 3) = 107) := by
          rcases hw6 with y | y | y | y | y | y <;> (rw [y] at z; omega)
        refine ⟨by rcases q with q | q <;> (rw [q.1]; omega), fun k hk => ?_⟩
        rcases (show k = 0 ∨ k = 1 ∨ k = 2 ∨ k = 3 by omega) with y | y | y | y <;> (rw [y]; rcases q with q | q <;> (rw [q.1]; omega))
    · subst e
      have b0 := h 0 (by omega)
      have b1 := h 1 (by omega)
      have b2 := h 2 (by omega)
      have b3 := h 3 (by omega)
      have b4 := h 4 (by omega)
      have z0 : cd v p 5 = 27 * (27 * (27 * (27 * (27 * (0 : Int) + v (p + 0) - 96) + v (p + 1) - 96) + v (p + 2) - 96) + v (p + 3) - 96) + v (p + 4) - 96 := rfl
      rw [z0]
      constructor
      · intro z
        have y0 := z.2 0 (by omega)
        have y1 := z.2 1 (by omega)
        have y2 := z.2 2 (by omega)
        have y3 := z.2 3 (by omega)
        have y4 := z.2 4 (by omega)
        have y5 := z.1
        rcases hw6 with y | y | y | y | y | y <;> (rw [y] at y0 y1 y2 y3 y4 y5 ⊢; omega)
      · intro z
        have q : (w = 2 ∧ v (p + 0) = 98 ∧ v (p + 1) = 101 ∧ v (p + 2) = 97 ∧ v (p + 3) = 115 ∧ v (p + 4) = 116) ∨ (w = 3 ∧ v (p + 0) = 99 ∧ v (p + 1) = 104 ∧ v (p + 2) = 101 ∧ v (p + 3) = 99 ∧ v (p + 4) = 107) ∨ (w = 5 ∧ v (p + 0) = 99 ∧ v (p + 1) = 111 ∧ v (p + 2) = 97 ∧ v (p + 3) = 99 ∧ v (p + 4) = 104) := by
          rcases hw6 with y | y | y | y | y | y <;> (rw [y] at z; omega)
        refine ⟨by rcases q with q | q | q <;> (rw [q.1]; omega), fun k hk => ?_⟩
        rcases (show k = 0 ∨ k = 1 ∨ k = 2 ∨ k = 3 ∨ k = 4 by omega) with y | y | y | y | y <;> (rw [y]; rcases q with q | q | q <;> (rw [q.1]; omega))
    · subst e
      have b0 := h 0 (by omega)
      have b1 := h 1 (by omega)
      have b2 := h 2 (by omega)
      have b3 := h 3 (by omega)
      have b4 := h 4 (by omega)
      have b5 := h 5 (by omega)
      have z0 : cd v p 6 = 27 * (27 * (27 * (27 * (27 * (27 * (0 : Int) + v (p + 0) - 96) + v (p + 1) - 96) + v (p + 2) - 96) + v (p + 3) - 96) + v (p + 4) - 96) + v (p + 5) - 96 := rfl
      rw [z0]
      constructor
      · intro z
        have y0 := z.2 0 (by omega)
        have y1 := z.2 1 (by omega)
        have y2 := z.2 2 (by omega)
        have y3 := z.2 3 (by omega)
        have y4 := z.2 4 (by omega)
        have y5 := z.2 5 (by omega)
        have y6 := z.1
        rcases hw6 with y | y | y | y | y | y <;> (rw [y] at y0 y1 y2 y3 y4 y5 y6 ⊢; omega)
      · intro z
        have q : w = 1 ∧ v (p + 0) = 112 ∧ v (p + 1) = 97 ∧ v (p + 2) = 115 ∧ v (p + 3) = 115 ∧ v (p + 4) = 101 ∧ v (p + 5) = 114 := by
          rcases hw6 with y | y | y | y | y | y <;> (rw [y] at z; omega)
        refine ⟨by rw [q.1]; omega, fun k hk => ?_⟩
        rcases (show k = 0 ∨ k = 1 ∨ k = 2 ∨ k = 3 ∨ k = 4 ∨ k = 5 by omega) with y | y | y | y | y | y <;> (rw [y, q.1]; omega)
  · rw [if_neg g]
    constructor
    · intro z; rcases hw6 with y | y | y | y | y | y <;> (rw [y] at z; omega)
    · intro z
      have z' : (0 : Int) = wk6 w := z
      rcases hw6 with y | y | y | y | y | y <;> (rw [y] at z'; omega)
