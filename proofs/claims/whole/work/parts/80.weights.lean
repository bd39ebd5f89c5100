/-! longs as images of Ints; rows of weights -/
def zL (z : Int) : Int64 := Int64.ofInt z
theorem zL_add (a b : Int) : zL a + zL b = zL (a + b) := (Int64.ofInt_add a b).symm
theorem zL_sub (a b : Int) : zL a - zL b = zL (a - b) := (Int64.ofInt_sub a b).symm
theorem zL_mul (a b : Int) : zL a * zL b = zL (a * b) := (Int64.ofInt_mul a b).symm
theorem zL_0 : (0 : Int64) = zL 0 := rfl
theorem zL_1 : (1 : Int64) = zL 1 := rfl
theorem zL_10 : (10 : Int64) = zL 10 := rfl
theorem zL_i32 (z : Int) : (zL z).toInt32 = zI z := Int64.toInt32_ofInt
theorem zL_toInt {z : Int} (h : -9223372036854775808 ≤ z ∧ z < 9223372036854775808) : (zL z).toInt = z := Int64.toInt_ofInt_of_le (by omega) (by omega)
theorem zI_i64 {z : Int} (h : (-2147483648 ≤ z ∧ z < 2147483648)) : (zI z).toInt64 = zL z := by
  apply Int64.toInt_inj.1
  rw [Int32.toInt_toInt64, zI_toInt h, zL_toInt (by omega)]
def lr (A : Nat → Int64) (W : Nat → Int) : Prop := ∀ q : Nat, q < 31 → A q = zL (W q)
theorem n31 : nI 31 = zI 31 := by decide
theorem x_fill6 {kx : (Nat → Int64) → Prop} : ∀ (j i : Nat) (A : Nat → Int64), i + j = 31 → (∀ A' : Nat → Int64, (∀ q : Nat, i ≤ q → q < 31 → A' q = zL 0) → (∀ q : Nat, q < i → A' q = A q) → kx A') → pJ7_fill_d0a16_6 31 kx (j + 1) 0 (zI i) (zI 31) A
  | 0, i, A, hi, hk => brT (by ((try simp only [zI_lit, zI_neg, zI_add, zI_sub, zI_mul, zI_n, ne_eq]) <;> (first | rw [zI_lt (by omega) (by omega)] | rw [zI_le (by omega) (by omega)] | rw [zI_eq (by omega) (by omega)]); try omega)) (hk A (fun q a b => absurd b (by omega)) (fun _ _ => rfl))
  | j + 1, i, A, hi, hk => by
    have e1 : zI (i : Int) + 1 = zI ((i + 1 : Nat) : Int) := by ((try simp only [zI_lit, zI_neg, zI_add, zI_sub, zI_mul, zI_n]) <;> (first | rfl | (refine zI_eqI ?_; omega)))
    have e3 : (zI (i : Int)).toNatClampNeg = i := by ((try simp only [zI_lit, zI_neg, zI_add, zI_sub, zI_mul, zI_n]); rw [zI_clamp (by omega)]; omega)
    refine brF (by ((try simp only [zI_lit, zI_neg, zI_add, zI_sub, zI_mul, zI_n, ne_eq]) <;> (first | rw [zI_lt (by omega) (by omega)] | rw [zI_le (by omega) (by omega)] | rw [zI_eq (by omega) (by omega)]); try omega)) ⟨by ((try simp only [zI_lit, zI_neg, zI_add, zI_sub, zI_mul, zI_n]); rw [zI_in (by omega)]; omega), ?_⟩
    rw [e1, e3]
    refine x_fill6 j (i + 1) _ (by omega) (fun A' f1 f2 => hk A' (fun q a b => ?_) (fun q a => ?_))
    · by_cases c : q = i
      · rw [c, f2 _ (by omega), updL_s]; rfl
      · exact f1 q (by omega) b
    · rw [f2 q (by omega), updL_n _ _ (by omega)]
theorem x_fill {A : Nat → Int64} {k : (Nat → Int64) → Prop} (hk : ∀ A' : Nat → Int64, lr A' (fun _ => 0) → k A') : pJ7_fill_d0a16 31 A 0 k := by
  unfold pJ7_fill_d0a16
  rw [n31]
  exact ⟨32, x_fill6 31 0 A (by omega) (fun A' f1 _ => hk A' (fun q hq => f1 q (by omega) hq))⟩
theorem x_ad {A : Nat → Int64} {W : Nat → Int} (h : lr A W) {z v : Int} (hz : -1 ≤ z ∧ z ≤ 31) {k : (Nat → Int64) → Prop} (hk : ∀ A' : Nat → Int64, lr A' (fun q => W q + if (q : Int) = z then v else 0) → k A') : pX8_add 31 A (zI z) (zL v) k := by
  unfold pX8_add
  rw [n31]
  by_cases c : z < 0
  · refine brT (by ((try simp only [zI_lit, zI_neg, zI_add, zI_sub, zI_mul, zI_n, ne_eq]) <;> (first | rw [zI_lt (by omega) (by omega)] | rw [zI_le (by omega) (by omega)] | rw [zI_eq (by omega) (by omega)]); try omega)) (hk A (fun q hq => ?_))
    show A q = zL (W q + if (q : Int) = z then v else 0)
    rw [if_neg (by omega), Int.add_zero]; exact h q hq
  · refine brF (by ((try simp only [zI_lit, zI_neg, zI_add, zI_sub, zI_mul, zI_n, ne_eq]) <;> (first | rw [zI_lt (by omega) (by omega)] | rw [zI_le (by omega) (by omega)] | rw [zI_eq (by omega) (by omega)]); try omega)) ?_
    by_cases d : 31 ≤ z
    · refine brT (by ((try simp only [zI_lit, zI_neg, zI_add, zI_sub, zI_mul, zI_n, ne_eq]) <;> (first | rw [zI_lt (by omega) (by omega)] | rw [zI_le (by omega) (by omega)] | rw [zI_eq (by omega) (by omega)]); try omega)) (hk A (fun q hq => ?_))
      show A q = zL (W q + if (q : Int) = z then v else 0)
      rw [if_neg (by omega), Int.add_zero]; exact h q hq
    · refine brF (by ((try simp only [zI_lit, zI_neg, zI_add, zI_sub, zI_mul, zI_n, ne_eq]) <;> (first | rw [zI_lt (by omega) (by omega)] | rw [zI_le (by omega) (by omega)] | rw [zI_eq (by omega) (by omega)]); try omega)) ⟨by ((try simp only [zI_lit, zI_neg, zI_add, zI_sub, zI_mul, zI_n]); rw [zI_in (by omega)]; omega), by ((try simp only [zI_lit, zI_neg, zI_add, zI_sub, zI_mul, zI_n]); rw [zI_in (by omega)]; omega), ?_⟩
      rw [zI_clamp (by omega), h z.toNat (by omega), zL_add]
      refine hk _ (fun q hq => ?_)
      show vp_updL A z.toNat (zL (W z.toNat + v)) q = zL (W q + if (q : Int) = z then v else 0)
      by_cases e : (q : Int) = z
      · rw [if_pos e, show z.toNat = q by omega, updL_s]
      · rw [if_neg e, updL_n _ _ (by omega), Int.add_zero]; exact h q hq
/-! moving on: what each height gives to which -/
def ct (W : Nat → Int) (t s l : Int) (a b : Nat → Int) (i q : Nat) : Int := (if (q : Int) = a i then W i * t else 0) + (if (q : Int) = (i : Int) then W i * s else 0) + (if (q : Int) = b i then W i * l else 0)
def sc (W : Nat → Int) (t s l : Int) (a b : Nat → Int) : Nat → Nat → Int
  | 0, _ => 0
  | i + 1, q => sc W t s l a b i q + ct W t s l a b i q
def tkF (lf : Bool) (i : Nat) : Int := if 0 < i ∨ lf = false then (i : Int) - 1 else (i : Int)
def lyF (lf : Bool) (i : Nat) : Int := if i < 30 ∨ lf = false then (i : Int) + 1 else (i : Int)
theorem x_ps11 {W : Nat → Int} {t s l : Int} (ht : (-2147483648 ≤ t ∧ t < 2147483648)) (hs : (-2147483648 ≤ s ∧ s < 2147483648)) (hl : (-2147483648 ≤ l ∧ l < 2147483648)) {lf : Bool} {F : Int32} (f0 : lf = false → F = 0) (f1 : lf = true → F = 1) {A : Nat → Int64} (hA : lr A W) {kx : (Nat → Int64) → (Nat → Int64) → Prop} (hk : ∀ B : Nat → Int64, lr B (sc W t s l (tkF lf) (lyF lf) 31) → kx A B) : ∀ (j i : Nat) (B : Nat → Int64), i + j = 31 → lr B (sc W t s l (tkF lf) (lyF lf) i) → pX8_pass_11 kx (j + 1) (zI t) (zI s) (zI l) F (zI i) A B
  | 0, i, B, hi, hB => by
    rw [show i = 31 by omega] at hB
    exact brT (by ((try simp only [zI_lit, zI_neg, zI_add, zI_sub, zI_mul, zI_n, ne_eq]) <;> (first | rw [zI_lt (by omega) (by omega)] | rw [zI_le (by omega) (by omega)] | rw [zI_eq (by omega) (by omega)]); try omega)) (hk B hB)
  | j + 1, i, B, hi, hB => by
    have rcq := fun B' hB' => x_ps11 ht hs hl f0 f1 hA hk j (i + 1) B' (by omega) hB'
    have e1 : zI (i : Int) + 1 = zI ((i + 1 : Nat) : Int) := by ((try simp only [zI_lit, zI_neg, zI_add, zI_sub, zI_mul, zI_n]) <;> (first | rfl | (refine zI_eqI ?_; omega)))
    have e3 : (zI (i : Int)).toNatClampNeg = i := by ((try simp only [zI_lit, zI_neg, zI_add, zI_sub, zI_mul, zI_n]); rw [zI_clamp (by omega)]; omega)
    have bz : -1 ≤ tkF lf i ∧ tkF lf i ≤ 31 := by unfold tkF; split <;> omega
    have by_ : -1 ≤ lyF lf i ∧ lyF lf i ≤ 31 := by unfold lyF; split <;> omega
    have go : ∀ (Z Y : Int32), Z = zI (tkF lf i) → Y = zI (lyF lf i) → pX8_pass_69 (pX8_pass_11 kx (j + 1)) (zI t) (zI s) (zI l) F (zI i) (zL (W i)) Z Y A B := fun Z Y eZ eY => by
      unfold pX8_pass_69
      rw [zI_i64 ht, zI_i64 hs, zI_i64 hl, zL_mul, zL_mul, zL_mul, e1, eZ, eY]
      refine x_ad hB bz (fun B1 h1 => x_ad h1 (by omega) (fun B2 h2 => x_ad h2 by_ (fun B3 h3 => rcq B3 (fun q hq => ?_))))
      rw [h3 q hq]
      refine congrArg zL ?_
      show sc W t s l (tkF lf) (lyF lf) i q + _ + _ + _ = sc W t s l (tkF lf) (lyF lf) i q + ct W t s l (tkF lf) (lyF lf) i q
      unfold ct
      rw [Int.add_assoc, Int.add_assoc, Int.add_assoc]
    have second : ∀ Z : Int32, Z = zI (tkF lf i) → pX8_pass_46 (pX8_pass_11 kx (j + 1)) (zI t) (zI s) (zI l) F (zI i) (zL (W i)) Z A B := fun Z eZ => by
      unfold pX8_pass_46 pX8_pass_60
      by_cases c : i < 30
      · refine brT (by ((try simp only [zI_lit, zI_neg, zI_add, zI_sub, zI_mul, zI_n, ne_eq]) <;> (first | rw [zI_lt (by omega) (by omega)] | rw [zI_le (by omega) (by omega)] | rw [zI_eq (by omega) (by omega)]); try omega)) (go Z _ eZ ?_)
        unfold lyF
        rw [if_pos (Or.inl c)]; ((try simp only [zI_lit, zI_neg, zI_add, zI_sub, zI_mul, zI_n]) <;> (first | rfl | (refine zI_eqI ?_; omega)))
      · refine brF (by ((try simp only [zI_lit, zI_neg, zI_add, zI_sub, zI_mul, zI_n, ne_eq]) <;> (first | rw [zI_lt (by omega) (by omega)] | rw [zI_le (by omega) (by omega)] | rw [zI_eq (by omega) (by omega)]); try omega)) ?_
        cases hlf : lf with
        | false =>
          refine brT (f0 hlf) (go Z _ eZ ?_)
          unfold lyF
          rw [if_pos (Or.inr hlf)]; ((try simp only [zI_lit, zI_neg, zI_add, zI_sub, zI_mul, zI_n]) <;> (first | rfl | (refine zI_eqI ?_; omega)))
        | true =>
          refine brF (by rw [f1 hlf]; decide) (go Z _ eZ ?_)
          unfold lyF
          rw [if_neg (by rw [hlf]; intro z; rcases z with z | z; exact c z; exact absurd z (by decide))]
    refine brF (by ((try simp only [zI_lit, zI_neg, zI_add, zI_sub, zI_mul, zI_n, ne_eq]) <;> (first | rw [zI_lt (by omega) (by omega)] | rw [zI_le (by omega) (by omega)] | rw [zI_eq (by omega) (by omega)]); try omega)) ⟨by ((try simp only [zI_lit, zI_neg, zI_add, zI_sub, zI_mul, zI_n]); rw [zI_in (by omega)]; omega), ?_⟩
    rw [e3, hA i (by omega)]
    unfold pX8_pass_37
    by_cases c : 0 < i
    · refine brT (by ((try simp only [zI_lit, zI_neg, zI_add, zI_sub, zI_mul, zI_n, ne_eq]) <;> (first | rw [zI_lt (by omega) (by omega)] | rw [zI_le (by omega) (by omega)] | rw [zI_eq (by omega) (by omega)]); try omega)) (second _ ?_)
      unfold tkF
      rw [if_pos (Or.inl c)]; ((try simp only [zI_lit, zI_neg, zI_add, zI_sub, zI_mul, zI_n]) <;> (first | rfl | (refine zI_eqI ?_; omega)))
    · refine brF (by ((try simp only [zI_lit, zI_neg, zI_add, zI_sub, zI_mul, zI_n, ne_eq]) <;> (first | rw [zI_lt (by omega) (by omega)] | rw [zI_le (by omega) (by omega)] | rw [zI_eq (by omega) (by omega)]); try omega)) ?_
      cases hlf : lf with
      | false =>
        refine brT (f0 hlf) (second _ ?_)
        unfold tkF
        rw [if_pos (Or.inr hlf)]; ((try simp only [zI_lit, zI_neg, zI_add, zI_sub, zI_mul, zI_n]) <;> (first | rfl | (refine zI_eqI ?_; omega)))
      | true =>
        refine brF (by rw [f1 hlf]; decide) (second _ ?_)
        unfold tkF
        rw [if_neg (by rw [hlf]; intro z; rcases z with z | z; exact c z; exact absurd z (by decide))]
theorem x_pass {W : Nat → Int} {t s l : Int} (ht : (-2147483648 ≤ t ∧ t < 2147483648)) (hs : (-2147483648 ≤ s ∧ s < 2147483648)) (hl : (-2147483648 ≤ l ∧ l < 2147483648)) (lf : Bool) {F : Int32} (f0 : lf = false → F = 0) (f1 : lf = true → F = 1) {A B : Nat → Int64} (hA : lr A W) {k : (Nat → Int64) → (Nat → Int64) → Prop} (hk : ∀ A' B' : Nat → Int64, lr A' (sc W t s l (tkF lf) (lyF lf) 31) → k A' B') : pX8_pass A B (zI t) (zI s) (zI l) F k := by
  unfold pX8_pass
  refine x_fill (fun B' hB => ⟨32, ?_⟩)
  refine x_ps11 ht hs hl f0 f1 hA (fun B2 h2 => ?_) 31 0 B' (by omega) hB
  refine hk _ _ (fun q hq => ?_)
  rw [c0, show ((31 : Int32)).toNatClampNeg = 31 by decide]
  show (if 0 ≤ q ∧ q < 0 + 31 then B2 (0 + (q - 0)) else A q) = _
  rw [if_pos (by omega), show 0 + (q - 0) = q by omega]
  exact h2 q hq
/-! sums -/
def sm (f : Nat → Int) : Nat → Int
  | 0 => 0
  | n + 1 => sm f n + f n
theorem x_up5 {A : Nat → Int64} {W : Nat → Int} (hA : lr A W) {c : Nat} (hc : c ≤ 30) {kx : Int64 → Prop} (hk : kx (zL (sm W (c + 1)))) : ∀ (j i : Nat), i + j = c + 1 → pX8_upTo_5 A kx (j + 1) (zI c) (zL (sm W i)) (zI i)
  | 0, i, hi => by
    rw [show i = c + 1 by omega]
    exact brT (by ((try simp only [zI_lit, zI_neg, zI_add, zI_sub, zI_mul, zI_n, ne_eq]) <;> (first | rw [zI_lt (by omega) (by omega)] | rw [zI_le (by omega) (by omega)] | rw [zI_eq (by omega) (by omega)]); try omega)) hk
  | j + 1, i, hi => by
    have e1 : zI (i : Int) + 1 = zI ((i + 1 : Nat) : Int) := by ((try simp only [zI_lit, zI_neg, zI_add, zI_sub, zI_mul, zI_n]) <;> (first | rfl | (refine zI_eqI ?_; omega)))
    have e3 : (zI (i : Int)).toNatClampNeg = i := by ((try simp only [zI_lit, zI_neg, zI_add, zI_sub, zI_mul, zI_n]); rw [zI_clamp (by omega)]; omega)
    refine brF (by ((try simp only [zI_lit, zI_neg, zI_add, zI_sub, zI_mul, zI_n, ne_eq]) <;> (first | rw [zI_lt (by omega) (by omega)] | rw [zI_le (by omega) (by omega)] | rw [zI_eq (by omega) (by omega)]); try omega)) (brF (by ((try simp only [zI_lit, zI_neg, zI_add, zI_sub, zI_mul, zI_n, ne_eq]) <;> (first | rw [zI_lt (by omega) (by omega)] | rw [zI_le (by omega) (by omega)] | rw [zI_eq (by omega) (by omega)]); try omega)) ⟨by ((try simp only [zI_lit, zI_neg, zI_add, zI_sub, zI_mul, zI_n]); rw [zI_in (by omega)]; omega), ?_⟩)
    rw [e1, e3, hA i (by omega), zL_add]
    exact x_up5 hA hc hk j (i + 1) (by omega)
theorem x_up {A : Nat → Int64} {W : Nat → Int} (hA : lr A W) {c : Nat} {C : Int32} (eC : C = zI c) (hc : c ≤ 30) {k : Int64 → Prop} (hk : k (zL (sm W (c + 1)))) : pX8_upTo A C k := by
  unfold pX8_upTo
  rw [eC]
  exact ⟨c + 2, x_up5 hA hc hk (c + 1) 0 (by omega)⟩
def ctf (c : Nat) (W : Nat → Int) : Nat → Int := fun q => if q ≤ c then 0 else W q
theorem x_to9 {c : Nat} (hc : c ≤ 30) {v : Int64} {kx : Int64 → (Nat → Int64) → Prop} : ∀ (j i : Nat) (A : Nat → Int64), i + j = c + 1 → (∀ A' : Nat → Int64, (∀ q : Nat, i ≤ q → q ≤ c → A' q = zL 0) → (∀ q : Nat, q < i ∨ c < q → A' q = A q) → kx v A') → pX8_takeOutUpTo_9 kx (j + 1) (zI c) v (zI i) A
  | 0, i, A, hi, hk => brT (by ((try simp only [zI_lit, zI_neg, zI_add, zI_sub, zI_mul, zI_n, ne_eq]) <;> (first | rw [zI_lt (by omega) (by omega)] | rw [zI_le (by omega) (by omega)] | rw [zI_eq (by omega) (by omega)]); try omega)) (hk A (fun q a b => absurd b (by omega)) (fun _ _ => rfl))
  | j + 1, i, A, hi, hk => by
    have e1 : zI (i : Int) + 1 = zI ((i + 1 : Nat) : Int) := by ((try simp only [zI_lit, zI_neg, zI_add, zI_sub, zI_mul, zI_n]) <;> (first | rfl | (refine zI_eqI ?_; omega)))
    have e3 : (zI (i : Int)).toNatClampNeg = i := by ((try simp only [zI_lit, zI_neg, zI_add, zI_sub, zI_mul, zI_n]); rw [zI_clamp (by omega)]; omega)
    refine brF (by ((try simp only [zI_lit, zI_neg, zI_add, zI_sub, zI_mul, zI_n, ne_eq]) <;> (first | rw [zI_lt (by omega) (by omega)] | rw [zI_le (by omega) (by omega)] | rw [zI_eq (by omega) (by omega)]); try omega)) (brF (by ((try simp only [zI_lit, zI_neg, zI_add, zI_sub, zI_mul, zI_n, ne_eq]) <;> (first | rw [zI_lt (by omega) (by omega)] | rw [zI_le (by omega) (by omega)] | rw [zI_eq (by omega) (by omega)]); try omega)) ⟨by ((try simp only [zI_lit, zI_neg, zI_add, zI_sub, zI_mul, zI_n]); rw [zI_in (by omega)]; omega), ?_⟩)
    rw [e1, e3]
    refine x_to9 hc j (i + 1) _ (by omega) (fun A' f1 f2 => hk A' (fun q a b => ?_) (fun q a => ?_))
    · by_cases d : q = i
      · rw [d, f2 _ (by omega), updL_s]; rfl
      · exact f1 q (by omega) b
    · rw [f2 q (by omega), updL_n _ _ (by omega)]
theorem x_out {A : Nat → Int64} {W : Nat → Int} (hA : lr A W) {c : Nat} (hc : c ≤ 30) {k : Int64 → (Nat → Int64) → Prop} (hk : ∀ A' : Nat → Int64, lr A' (ctf c W) → k (zL (sm W (c + 1))) A') : pX8_takeOutUpTo A (zI c) k := by
  unfold pX8_takeOutUpTo
  refine x_up hA rfl hc ⟨c + 2, x_to9 hc (c + 1) 0 A (by omega) (fun A' f1 f2 => hk A' (fun q hq => ?_))⟩
  unfold ctf
  by_cases d : q ≤ c
  · rw [if_pos d]; exact f1 q (by omega) d
  · rw [if_neg d, f2 q (by omega)]; exact hA q hq
def ind (h : Int) (q : Nat) : Int := if (q : Int) = h then 1 else 0
theorem x_start {A : Nat → Int64} {h : Int} (hh : 0 ≤ h ∧ h ≤ 30) {k : (Nat → Int64) → Prop} (hk : ∀ A' : Nat → Int64, lr A' (ind h) → k A') : pX8_startAt A (zI h) k := by
  unfold pX8_startAt
  rw [zL_1]
  refine x_fill (fun A1 h1 => x_ad h1 (by omega) (fun A2 h2 => hk A2 (fun q hq => ?_)))
  rw [h2 q hq]
  refine congrArg zL ?_
  show 0 + (if (q : Int) = h then 1 else 0) = ind h q
  rw [Int.zero_add]; rfl
theorem x_ko2 {h : Int} (hh : 0 ≤ h ∧ h ≤ 30) {kx : (Nat → Int64) → Prop} : ∀ (j i : Nat) (A : Nat → Int64), i + j = 31 → (∀ A' : Nat → Int64, (∀ q : Nat, i ≤ q → q < 31 → A' q = if (q : Int) = h then A q else zL 0) → (∀ q : Nat, q < i → A' q = A q) → kx A') → pX8_keepOnly_2 kx (j + 1) (zI h) (zI i) A
  | 0, i, A, hi, hk => brT (by ((try simp only [zI_lit, zI_neg, zI_add, zI_sub, zI_mul, zI_n, ne_eq]) <;> (first | rw [zI_lt (by omega) (by omega)] | rw [zI_le (by omega) (by omega)] | rw [zI_eq (by omega) (by omega)]); try omega)) (hk A (fun q a b => absurd b (by omega)) (fun _ _ => rfl))
  | j + 1, i, A, hi, hk => by
    have e1 : zI (i : Int) + 1 = zI ((i + 1 : Nat) : Int) := by ((try simp only [zI_lit, zI_neg, zI_add, zI_sub, zI_mul, zI_n]) <;> (first | rfl | (refine zI_eqI ?_; omega)))
    have e3 : (zI (i : Int)).toNatClampNeg = i := by ((try simp only [zI_lit, zI_neg, zI_add, zI_sub, zI_mul, zI_n]); rw [zI_clamp (by omega)]; omega)
    refine brF (by ((try simp only [zI_lit, zI_neg, zI_add, zI_sub, zI_mul, zI_n, ne_eq]) <;> (first | rw [zI_lt (by omega) (by omega)] | rw [zI_le (by omega) (by omega)] | rw [zI_eq (by omega) (by omega)]); try omega)) ?_
    rw [e1, e3]
    by_cases d : (i : Int) = h
    · refine brT (by ((try simp only [zI_lit, zI_neg, zI_add, zI_sub, zI_mul, zI_n, ne_eq]) <;> (first | rw [zI_lt (by omega) (by omega)] | rw [zI_le (by omega) (by omega)] | rw [zI_eq (by omega) (by omega)]); try omega)) (x_ko2 hh j (i + 1) _ (by omega) (fun A' f1 f2 => hk A' (fun q a b => ?_) (fun q a => ?_)))
      · by_cases c : q = i
        · rw [c, f2 _ (by omega), if_pos d]
        · exact f1 q (by omega) b
      · exact f2 q (by omega)
    · refine brF (by ((try simp only [zI_lit, zI_neg, zI_add, zI_sub, zI_mul, zI_n, ne_eq]) <;> (first | rw [zI_lt (by omega) (by omega)] | rw [zI_le (by omega) (by omega)] | rw [zI_eq (by omega) (by omega)]); try omega)) ⟨by ((try simp only [zI_lit, zI_neg, zI_add, zI_sub, zI_mul, zI_n]); rw [zI_in (by omega)]; omega), x_ko2 hh j (i + 1) _ (by omega) (fun A' f1 f2 => hk A' (fun q a b => ?_) (fun q a => ?_))⟩
      · by_cases c : q = i
        · rw [c, f2 _ (by omega), updL_s, if_neg d]; rfl
        · rw [f1 q (by omega) b, updL_n _ _ c]
      · rw [f2 q (by omega), updL_n _ _ (by omega)]
theorem x_keep {A : Nat → Int64} {W : Nat → Int} (hA : lr A W) {h : Int} (hh : 0 ≤ h ∧ h ≤ 30) {k : (Nat → Int64) → Prop} (hk : ∀ A' : Nat → Int64, lr A' (fun q => if (q : Int) = h then W q else 0) → k A') : pX8_keepOnly A (zI h) k := by
  unfold pX8_keepOnly
  refine ⟨32, x_ko2 hh 31 0 A (by omega) (fun A' f1 _ => hk A' (fun q hq => ?_))⟩
  rw [f1 q (by omega) hq]
  show _ = zL (if (q : Int) = h then W q else 0)
  by_cases c : (q : Int) = h
  · rw [if_pos c, if_pos c]; exact hA q hq
  · rw [if_neg c, if_neg c]
/-! sums: what they keep -/
theorem sm_n {f : Nat → Int} : ∀ n : Nat, (∀ q, q < n → 0 ≤ f q) → 0 ≤ sm f n
  | 0, _ => Int.le_refl 0
  | n + 1, h => by
    have h1 := sm_n n (fun q a => h q (by omega))
    have h2 := h n (by omega)
    show 0 ≤ sm f n + f n
    omega
theorem sm_le {f : Nat → Int} {M : Int} : ∀ n : Nat, (∀ q, q < n → f q ≤ M) → sm f n ≤ (n : Int) * M
  | 0, _ => by rw [show ((0 : Nat) : Int) = 0 from rfl, Int.zero_mul]; exact Int.le_refl 0
  | n + 1, h => by
    have h1 := sm_le n (fun q a => h q (by omega))
    have h2 := h n (by omega)
    show sm f n + f n ≤ _
    rw [show ((n + 1 : Nat) : Int) = (n : Int) + 1 by omega, Int.add_mul, Int.one_mul]
    omega
theorem sm_mono {f : Nat → Int} : ∀ n m : Nat, (∀ q, q < n + m → 0 ≤ f q) → sm f n ≤ sm f (n + m)
  | n, 0, _ => Int.le_refl _
  | n, m + 1, h => by
    have h1 := sm_mono n m (fun q a => h q (by omega))
    have h2 := h (n + m) (by omega)
    show sm f n ≤ sm f (n + m) + f (n + m)
    omega
theorem sm_congr {f g : Nat → Int} : ∀ n : Nat, (∀ q, q < n → f q = g q) → sm f n = sm g n
  | 0, _ => rfl
  | n + 1, h => by
    show sm f n + f n = sm g n + g n
    rw [sm_congr n (fun q a => h q (by omega)), h n (by omega)]
theorem sm_add (f g : Nat → Int) : ∀ n : Nat, sm (fun q => f q + g q) n = sm f n + sm g n
  | 0 => rfl
  | n + 1 => by
    show sm (fun q => f q + g q) n + (f n + g n) = sm f n + f n + (sm g n + g n)
    rw [sm_add f g n]; omega
theorem sm_ite (z v : Int) : ∀ n : Nat, sm (fun q => if (q : Int) = z then v else 0) n = if 0 ≤ z ∧ z < (n : Int) then v else 0
  | 0 => by rw [if_neg (by omega)]; rfl
  | n + 1 => by
    show sm (fun q => if (q : Int) = z then v else 0) n + (if (n : Int) = z then v else 0) = _
    rw [sm_ite z v n]
    by_cases c : (n : Int) = z
    · rw [if_pos c, if_neg (by omega), if_pos (by omega), Int.zero_add]
    · rw [if_neg c, Int.add_zero]
      by_cases d : 0 ≤ z ∧ z < (n : Int)
      · rw [if_pos d, if_pos (by omega)]
      · rw [if_neg d, if_neg (by omega)]
theorem sm_ctf {f : Nat → Int} {c : Nat} : ∀ n : Nat, sm (ctf c f) n + sm f (min n (c + 1)) = sm f n
  | 0 => by rw [Nat.zero_min]; rfl
  | n + 1 => by
    have ih := sm_ctf (f := f) (c := c) n
    show sm (ctf c f) n + (if n ≤ c then 0 else f n) + sm f (min (n + 1) (c + 1)) = sm f n + f n
    by_cases d : n ≤ c
    · rw [if_pos d, show min (n + 1) (c + 1) = n + 1 by omega]
      rw [show min n (c + 1) = n by omega] at ih
      show sm (ctf c f) n + 0 + (sm f n + f n) = _
      omega
    · rw [if_neg d, show min (n + 1) (c + 1) = c + 1 by omega]
      rw [show min n (c + 1) = c + 1 by omega] at ih
      omega
theorem ct_n {W : Nat → Int} {t s l : Int} {a b : Nat → Int} {i : Nat} (h : 0 ≤ W i) (ht : 0 ≤ t) (hs : 0 ≤ s) (hl : 0 ≤ l) (q : Nat) : 0 ≤ ct W t s l a b i q := by
  have h1 := Int.mul_nonneg h ht
  have h2 := Int.mul_nonneg h hs
  have h3 := Int.mul_nonneg h hl
  unfold ct
  repeat' split
  all_goals omega
theorem sc_n {W : Nat → Int} {t s l : Int} {a b : Nat → Int} (ht : 0 ≤ t) (hs : 0 ≤ s) (hl : 0 ≤ l) (q : Nat) : ∀ i : Nat, (∀ j, j < i → 0 ≤ W j) → 0 ≤ sc W t s l a b i q
  | 0, _ => Int.le_refl 0
  | i + 1, h => by
    have h1 := sc_n ht hs hl q i (a := a) (b := b) (fun j hj => h j (by omega))
    have h2 := ct_n (a := a) (b := b) (h i (by omega)) ht hs hl q
    show 0 ≤ sc W t s l a b i q + ct W t s l a b i q
    omega
theorem sm_ct {W : Nat → Int} {t s l : Int} {a b : Nat → Int} {i : Nat} (hi : i < 31) (ha : 0 ≤ a i ∧ a i < 31) (hb : 0 ≤ b i ∧ b i < 31) : sm (ct W t s l a b i) 31 = W i * t + W i * s + W i * l := by
  have e : sm (ct W t s l a b i) 31 = sm (fun q => ((fun q => (fun q : Nat => if (q : Int) = a i then W i * t else 0) q + (fun q : Nat => if (q : Int) = (i : Int) then W i * s else 0) q) q) + (fun q : Nat => if (q : Int) = b i then W i * l else 0) q) 31 := sm_congr 31 (fun q _ => rfl)
  rw [e, sm_add, sm_add, sm_ite, sm_ite, sm_ite, if_pos (by omega), if_pos (by omega), if_pos (by omega)]
theorem sm_sc {W : Nat → Int} {t s l : Int} {a b : Nat → Int} (ha : ∀ i, i < 31 → 0 ≤ a i ∧ a i < 31) (hb : ∀ i, i < 31 → 0 ≤ b i ∧ b i < 31) : ∀ i : Nat, i ≤ 31 → sm (sc W t s l a b i) 31 = sm W i * (t + s + l)
  | 0, _ => by
    rw [show sm W 0 = 0 from rfl, Int.zero_mul, sm_congr (g := fun q : Nat => if (q : Int) = -1 then 0 else 0) 31 (fun q _ => by rw [ite_self]; rfl), sm_ite, if_neg (by omega)]
  | i + 1, h => by
    have e : sm (sc W t s l a b (i + 1)) 31 = sm (fun q => sc W t s l a b i q + ct W t s l a b i q) 31 := sm_congr 31 (fun q _ => rfl)
    rw [e, sm_add, sm_sc ha hb i (by omega), sm_ct (by omega) (ha i (by omega)) (hb i (by omega))]
    show _ = (sm W i + W i) * (t + s + l)
    rw [Int.add_mul, Int.mul_add (W i), Int.mul_add (W i)]
