/-! sure: the rows by what one did -/
theorem sc_cf {W : Nat → Int} {t s l : Int} (q : Nat) : ∀ i : Nat, sc W t s l (tkF false) (lyF false) i q = (if q + 1 < i then W (q + 1) * t else 0) + (if q < i then W q * s else 0) + (if 0 < q ∧ q < i + 1 then W (q - 1) * l else 0)
  | 0 => by rw [if_neg (by omega), if_neg (by omega), if_neg (by omega)]; rfl
  | i + 1 => by
    show sc W t s l (tkF false) (lyF false) i q + ct W t s l (tkF false) (lyF false) i q = _
    rw [sc_cf q i]
    unfold ct
    have ea : tkF false i = (i : Int) - 1 := by unfold tkF; rw [if_pos (Or.inr rfl)]
    have eb : lyF false i = (i : Int) + 1 := by unfold lyF; rw [if_pos (Or.inr rfl)]
    rw [ea, eb]
    have t1 : (if q + 1 < i + 1 then W (q + 1) * t else 0) = (if q + 1 < i then W (q + 1) * t else 0) + (if (q : Int) = (i : Int) - 1 then W i * t else 0) := by
      by_cases c : q + 1 = i
      · rw [if_pos (by omega), if_neg (by omega), if_pos (by omega), c, Int.zero_add]
      · rw [if_neg (c := (q : Int) = (i : Int) - 1) (by omega), Int.add_zero]
        by_cases d : q + 1 < i
        · rw [if_pos (by omega), if_pos d]
        · rw [if_neg (by omega), if_neg d]
    have t2 : (if q < i + 1 then W q * s else 0) = (if q < i then W q * s else 0) + (if (q : Int) = (i : Int) then W i * s else 0) := by
      by_cases c : q = i
      · rw [if_pos (by omega), if_neg (by omega), if_pos (by omega), c, Int.zero_add]
      · rw [if_neg (c := (q : Int) = (i : Int)) (by omega), Int.add_zero]
        by_cases d : q < i
        · rw [if_pos (by omega), if_pos d]
        · rw [if_neg (by omega), if_neg d]
    have t3 : (if 0 < q ∧ q < i + 1 + 1 then W (q - 1) * l else 0) = (if 0 < q ∧ q < i + 1 then W (q - 1) * l else 0) + (if (q : Int) = (i : Int) + 1 then W i * l else 0) := by
      by_cases c : q = i + 1
      · rw [if_pos (by omega), if_neg (by omega), if_pos (by omega), show q - 1 = i by omega, Int.zero_add]
      · rw [if_neg (c := (q : Int) = (i : Int) + 1) (by omega), Int.add_zero]
        by_cases d : 0 < q ∧ q < i + 1
        · rw [if_pos (by omega), if_pos d]
        · rw [if_neg (by omega), if_neg d]
    rw [t1, t2, t3]
    omega
theorem mul01 {w t M : Int} (hw : 0 ≤ w ∧ w ≤ M) (ht : t = 0 ∨ t = 1) : 0 ≤ w * t ∧ w * t ≤ M := by
  rcases ht with e | e
  · rw [e, Int.mul_zero]; omega
  · rw [e, Int.mul_one]; exact hw
theorem RR_b (c : Nat → Nat) (v : Nat → Int) (nl : Nat) (h p d : Int) : ∀ (i q : Nat), q < 31 → 0 ≤ RR c v nl h p d i q ∧ RR c v nl h p d i q ≤ (3 : Int) ^ i
  | 0, q, _ => by
    show 0 ≤ (if fb c v 0 q nl = true then ind h q else 0) ∧ (if fb c v 0 q nl = true then ind h q else 0) ≤ (3 : Int) ^ 0
    rw [Int.pow_zero]
    unfold ind
    repeat' split
    all_goals omega
  | i + 1, q, hq => by
    have ih := RR_b c v nl h p d i
    have hp : (0 : Int) ≤ 3 ^ i := Int.le_trans (ih 0 (by omega)).1 (ih 0 (by omega)).2
    show 0 ≤ (if fb c v (i + 1) q nl = true then sc (RR c v nl h p d i) (rd p d i (-1)) (rd p d i 0) (rd p d i 1) (tkF false) (lyF false) 31 q else 0) ∧ (if fb c v (i + 1) q nl = true then sc (RR c v nl h p d i) (rd p d i (-1)) (rd p d i 0) (rd p d i 1) (tkF false) (lyF false) 31 q else 0) ≤ (3 : Int) ^ (i + 1)
    rw [Int.pow_succ]
    by_cases g : fb c v (i + 1) q nl = true
    · rw [if_pos g, sc_cf]
      have z1 : 0 ≤ (if q + 1 < 31 then RR c v nl h p d i (q + 1) * rd p d i (-1) else 0) ∧ (if q + 1 < 31 then RR c v nl h p d i (q + 1) * rd p d i (-1) else 0) ≤ (3 : Int) ^ i := by
        by_cases k : q + 1 < 31
        · rw [if_pos k]; exact mul01 (ih _ k) (rd_01 _ _ _ _)
        · rw [if_neg k]; omega
      have z2 : 0 ≤ (if q < 31 then RR c v nl h p d i q * rd p d i 0 else 0) ∧ (if q < 31 then RR c v nl h p d i q * rd p d i 0 else 0) ≤ (3 : Int) ^ i := by
        rw [if_pos hq]; exact mul01 (ih _ hq) (rd_01 _ _ _ _)
      have z3 : 0 ≤ (if 0 < q ∧ q < 31 + 1 then RR c v nl h p d i (q - 1) * rd p d i 1 else 0) ∧ (if 0 < q ∧ q < 31 + 1 then RR c v nl h p d i (q - 1) * rd p d i 1 else 0) ≤ (3 : Int) ^ i := by
        by_cases k : 0 < q ∧ q < 31 + 1
        · rw [if_pos k]; exact mul01 (ih _ (by omega)) (rd_01 _ _ _ _)
        · rw [if_neg k]; omega
      omega
    · rw [if_neg g]; omega
theorem pow3 : ∀ i : Nat, i ≤ 12 → (3 : Int) ^ i ≤ 531441 := by decide
def TT (c : Nat → Nat) (v : Nat → Int) (nl np : Nat) (h p d : Int) : Int := sm (RR c v nl h p d np) 31
theorem TT_b {c : Nat → Nat} {v : Nat → Int} {nl np : Nat} {h p d : Int} (hn : np ≤ 12) : 0 ≤ TT c v nl np h p d ∧ TT c v nl np h p d ≤ 31 * 531441 := by
  have h3 := pow3 np hn
  unfold TT
  refine ⟨sm_n 31 (fun q hq => (RR_b c v nl h p d np q hq).1), ?_⟩
  have := sm_le (f := RR c v nl h p d np) (M := 531441) 31 (fun q hq => by have := (RR_b c v nl h p d np q hq).2; omega)
  omega
theorem ct_add3 {W X Y Z : Nat → Int} {t s l : Int} {a b : Nat → Int} {i : Nat} (e : W i = X i + Y i + Z i) (q : Nat) : ct W t s l a b i q = ct X t s l a b i q + ct Y t s l a b i q + ct Z t s l a b i q := by
  unfold ct
  rw [e, Int.add_mul, Int.add_mul, Int.add_mul, Int.add_mul, Int.add_mul, Int.add_mul]
  repeat' split
  all_goals omega
theorem sc_add3 {W X Y Z : Nat → Int} {t s l : Int} {a b : Nat → Int} (e : ∀ i, W i = X i + Y i + Z i) (q : Nat) : ∀ i : Nat, sc W t s l a b i q = sc X t s l a b i q + sc Y t s l a b i q + sc Z t s l a b i q
  | 0 => rfl
  | i + 1 => by
    show sc W t s l a b i q + ct W t s l a b i q = (sc X t s l a b i q + ct X t s l a b i q) + (sc Y t s l a b i q + ct Y t s l a b i q) + (sc Z t s l a b i q + ct Z t s l a b i q)
    rw [sc_add3 e q i, ct_add3 (e i) q]
    omega
theorem sc_one {W : Nat → Int} {a b : Nat → Int} (q : Nat) : ∀ i : Nat, sc W 1 1 1 a b i q = sc W 1 0 0 a b i q + sc W 0 1 0 a b i q + sc W 0 0 1 a b i q
  | 0 => rfl
  | i + 1 => by
    show sc W 1 1 1 a b i q + ct W 1 1 1 a b i q = (sc W 1 0 0 a b i q + ct W 1 0 0 a b i q) + (sc W 0 1 0 a b i q + ct W 0 1 0 a b i q) + (sc W 0 0 1 a b i q + ct W 0 0 1 a b i q)
    rw [sc_one q i]
    unfold ct
    simp only [Int.mul_one, Int.mul_zero, ite_self]
    omega
theorem rd_ne {p d : Int} {i : Nat} {e : Int} (h : ¬ (i : Int) = p) : rd p d i e = 1 := by unfold rd; rw [if_neg h]
theorem rd_eq {p d : Int} {i : Nat} {e : Int} (h : (i : Int) = p) : rd p d i e = if d = e then 1 else 0 := by unfold rd; rw [if_pos h]
section SU
variable {c : Nat → Nat} {v : Nat → Int} {nl : Nat} {h : Int} {p : Nat}
theorem RR_pre (d : Int) : ∀ i : Nat, i ≤ p → RR c v nl h p d i = RR c v nl h (-1) 0 i
  | 0, _ => rfl
  | i + 1, hi => by
    show fw c v (i + 1) nl (sc (RR c v nl h p d i) (rd p d i (-1)) (rd p d i 0) (rd p d i 1) (tkF false) (lyF false) 31) = fw c v (i + 1) nl (sc (RR c v nl h (-1) 0 i) (rd (-1) 0 i (-1)) (rd (-1) 0 i 0) (rd (-1) 0 i 1) (tkF false) (lyF false) 31)
    rw [RR_pre d i (by omega), rd_ne (by omega), rd_ne (by omega), rd_ne (by omega), rd_ne (by omega), rd_ne (by omega), rd_ne (by omega)]
theorem fw_add3 {n : Nat} {W X Y Z : Nat → Int} {q : Nat} (e : W q = X q + Y q + Z q) : fw c v n nl W q = fw c v n nl X q + fw c v n nl Y q + fw c v n nl Z q := by
  unfold fw
  by_cases g : fb c v n q nl = true
  · rw [if_pos g, if_pos g, if_pos g, if_pos g]; exact e
  · rw [if_neg g, if_neg g, if_neg g, if_neg g]; rfl
theorem RR_sum : ∀ (i q : Nat), p < i → RR c v nl h (-1) 0 i q = RR c v nl h p (-1) i q + RR c v nl h p 0 i q + RR c v nl h p 1 i q
  | 0, _, hi => absurd hi (by omega)
  | i + 1, q, hi => by
    show fw c v (i + 1) nl (sc (RR c v nl h (-1) 0 i) (rd (-1) 0 i (-1)) (rd (-1) 0 i 0) (rd (-1) 0 i 1) (tkF false) (lyF false) 31) q = fw c v (i + 1) nl (sc (RR c v nl h p (-1) i) (rd p (-1) i (-1)) (rd p (-1) i 0) (rd p (-1) i 1) (tkF false) (lyF false) 31) q + fw c v (i + 1) nl (sc (RR c v nl h p 0 i) (rd p 0 i (-1)) (rd p 0 i 0) (rd p 0 i 1) (tkF false) (lyF false) 31) q + fw c v (i + 1) nl (sc (RR c v nl h p 1 i) (rd p 1 i (-1)) (rd p 1 i 0) (rd p 1 i 1) (tkF false) (lyF false) 31) q
    refine fw_add3 ?_
    rw [rd_ne (p := -1) (by omega), rd_ne (p := -1) (by omega), rd_ne (p := -1) (by omega)]
    by_cases g : i = p
    · rw [RR_pre (-1) i (by omega), RR_pre 0 i (by omega), RR_pre 1 i (by omega)]
      have gg : (i : Int) = (p : Int) := by omega
      rw [rd_eq gg, rd_eq gg, rd_eq gg, rd_eq gg, rd_eq gg, rd_eq gg, rd_eq gg, rd_eq gg, rd_eq gg]
      exact sc_one q 31
    · have gg : ¬ (i : Int) = (p : Int) := by omega
      rw [rd_ne gg, rd_ne gg, rd_ne gg, rd_ne gg, rd_ne gg, rd_ne gg, rd_ne gg, rd_ne gg, rd_ne gg]
      exact sc_add3 (fun j => RR_sum i j (by omega)) q 31
theorem TT_sum {np : Nat} (hp : p < np) : TT c v nl np h (-1) 0 = TT c v nl np h p (-1) + TT c v nl np h p 0 + TT c v nl np h p 1 := by
  unfold TT
  have e : sm (RR c v nl h (-1) 0 np) 31 = sm (fun q => (fun q => RR c v nl h p (-1) np q + RR c v nl h p 0 np q) q + RR c v nl h p 1 np q) 31 := sm_congr 31 (fun q _ => RR_sum np q hp)
  rw [e, sm_add, sm_add]
end SU
def sst (f T e : Int) : Int := if 0 < T then (if f = -20 then e else -5) else f
def suV (a m z l : Int) : Int := if a = 0 then -20 else if m = a then -1 else if z = a then 0 else if l = a then 1 else -5
theorem sst_V {a m z l : Int} (e : a = m + z + l) (hm : 0 ≤ m) (hz : 0 ≤ z) (hl : 0 ≤ l) : sst (sst (sst (-20) m (-1)) z 0) l 1 = suV a m z l := by
  unfold sst suV
  repeat' split
  all_goals omega
section SX
variable {np nl : Nat} {cells lc : Nat → Int32} {P L : Nat → Nat → Int} {h : Int} {p : Nat}
theorem x_su26 (hx : rowsIn 6 np 0 cells P) (hP : okP np P) (hl : rowsIn 2 nl 0 lc L) (hL : okL nl L) (hh : 0 ≤ h ∧ h ≤ 30) (hp : p < np) {f e : Int} (hf : -20 ≤ f ∧ f ≤ 1) (he : -1 ≤ e ∧ e ≤ 1) {F E : Int32} (eF : F = zI f) (eE : E = zI e) {b n : Int32} {A B : Nat → Int64} {kx : Int32 → Int32 → Int32 → (Nat → Int64) → (Nat → Int64) → Prop} {m : Nat} (hk : ∀ A' B' : Nat → Int64, pX11_sure_26 (zI h) (zI np) cells (zI nl) lc kx m (zI p) (zI (sst f (TT (cL P L np) (vL L) nl np h p e) e)) (E + 1) b n A' B') : pX11_sure_26 (zI h) (zI np) cells (zI nl) lc kx (m + 1) (zI p) F E b n A B := by
  have h12 := hP.1
  have bT := TT_b (c := cL P L np) (v := vL L) (nl := nl) (h := h) (p := p) (d := e) h12
  rw [eF, eE]
  rw [eE] at hk
  refine brF (by ((try simp only [zI_lit, zI_neg, zI_add, zI_sub, zI_mul, zI_n, ne_eq]) <;> (first | rw [zI_lt (by omega) (by omega)] | rw [zI_le (by omega) (by omega)] | rw [zI_eq (by omega) (by omega)]); try omega)) (x_rtf hx hP hl hL hh rfl rfl (by omega) he (fun A' B' => ?_))
  have q := hk A' B'
  unfold sst at q
  rw [show sm (RR (cL P L np) (vL L) nl h p e np) 31 = TT (cL P L np) (vL L) nl np h p e from rfl]
  by_cases g : 0 < TT (cL P L np) (vL L) nl np h p e
  · rw [if_pos g] at q
    refine brF (by ((try simp only [zI_lit, zI_neg, zI_add, zI_sub, zI_mul, zI_n, ne_eq]) <;> (first | rw [zI_lt (by omega) (by omega)] | rw [zI_le (by omega) (by omega)] | rw [zI_eq (by omega) (by omega)]); try omega)) ?_
    by_cases g2 : f = -20
    · rw [if_pos g2] at q
      exact brT (by ((try simp only [zI_lit, zI_neg, zI_add, zI_sub, zI_mul, zI_n, ne_eq]) <;> (first | rw [zI_lt (by omega) (by omega)] | rw [zI_le (by omega) (by omega)] | rw [zI_eq (by omega) (by omega)]); try omega)) q
    · rw [if_neg g2] at q
      exact brF (by ((try simp only [zI_lit, zI_neg, zI_add, zI_sub, zI_mul, zI_n, ne_eq]) <;> (first | rw [zI_lt (by omega) (by omega)] | rw [zI_le (by omega) (by omega)] | rw [zI_eq (by omega) (by omega)]); try omega)) q
  · rw [if_neg g] at q
    exact brT (by ((try simp only [zI_lit, zI_neg, zI_add, zI_sub, zI_mul, zI_n, ne_eq]) <;> (first | rw [zI_lt (by omega) (by omega)] | rw [zI_le (by omega) (by omega)] | rw [zI_eq (by omega) (by omega)]); try omega)) q
theorem x_sure {a : Int} {bc nc : Int32} {A B : Nat → Int64} (hx : rowsIn 6 np 0 cells P) (hP : okP np P) (hl : rowsIn 2 nl 0 lc L) (hL : okL nl L) (hh : 0 ≤ h ∧ h ≤ 30) (ra : (-2147483648 ≤ a ∧ a < 2147483648)) {K : Int32 → Int32 → Int32 → (Nat → Int64) → (Nat → Int64) → Prop} (h0 : ¬ (0 ≤ a ∧ a < np) → K (-10) (bc + 1) nc A B) (h1 : 0 ≤ a ∧ a < np → ∀ A' B', K (zI (suV (TT (cL P L np) (vL L) nl np h (-1) 0) (TT (cL P L np) (vL L) nl np h a (-1)) (TT (cL P L np) (vL L) nl np h a 0) (TT (cL P L np) (vL L) nl np h a 1))) bc (if TT (cL P L np) (vL L) nl np h (-1) 0 = 0 then nc + 1 else nc) A' B') : pX11_sure bc nc (zI h) (zI np) cells (zI nl) lc A B (zI a) K := by
  have h12 := hP.1
  unfold pX11_sure
  refine x_has (by omega) ra (fun g => br1 ?_) (fun g => br0 ?_)
  · have hv := h1 g
    obtain ⟨q, rfl⟩ : ∃ q : Nat, a = (q : Int) := ⟨a.toNat, by omega⟩
    have bA := TT_b (c := cL P L np) (v := vL L) (nl := nl) (h := h) (p := -1) (d := 0) h12
    have b1 := TT_b (c := cL P L np) (v := vL L) (nl := nl) (h := h) (p := q) (d := -1) h12
    have b2 := TT_b (c := cL P L np) (v := vL L) (nl := nl) (h := h) (p := q) (d := 0) h12
    have b3 := TT_b (c := cL P L np) (v := vL L) (nl := nl) (h := h) (p := q) (d := 1) h12
    have es := TT_sum (c := cL P L np) (v := vL L) (nl := nl) (h := h) (p := q) (np := np) (by omega)
    have eV := sst_V es b1.1 b2.1 b3.1
    have s1 : -20 ≤ sst (-20) (TT (cL P L np) (vL L) nl np h q (-1)) (-1) ∧ sst (-20) (TT (cL P L np) (vL L) nl np h q (-1)) (-1) ≤ 1 := by
      unfold sst
      repeat' split
      all_goals omega
    have s2 : -20 ≤ sst (sst (-20) (TT (cL P L np) (vL L) nl np h q (-1)) (-1)) (TT (cL P L np) (vL L) nl np h q 0) 0 ∧ sst (sst (-20) (TT (cL P L np) (vL L) nl np h q (-1)) (-1)) (TT (cL P L np) (vL L) nl np h q 0) 0 ≤ 1 := by
      generalize sst (-20) (TT (cL P L np) (vL L) nl np h q (-1)) (-1) = y at s1 ⊢
      unfold sst
      repeat' split
      all_goals omega
    refine ⟨4, ?_⟩
    refine x_su26 (p := q) (m := 3) hx hP hl hL hh (by omega) (f := -20) (e := -1) (by omega) (by omega) rfl rfl (fun A1 B1 => ?_)
    refine x_su26 (p := q) (m := 2) hx hP hl hL hh (by omega) (e := 0) s1 (by omega) rfl (by decide) (fun A2 B2 => ?_)
    refine x_su26 (p := q) (m := 1) hx hP hl hL hh (by omega) (e := 1) s2 (by omega) rfl (by decide) (fun A3 B3 => ?_)
    refine brT (by decide) ?_
    rw [eV]
    have hw := hv A3 B3
    by_cases z : TT (cL P L np) (vL L) nl np h (-1) 0 = 0
    · rw [if_pos z] at hw
      refine brT ?_ hw
      unfold suV
      rw [if_pos z]; rfl
    · rw [if_neg z] at hw
      refine brF ?_ hw
      unfold suV
      rw [if_neg z]
      repeat' split
      all_goals decide
  · unfold pX11_badAs
    exact h0 g
end SX
section SM
variable {np nl : Nat} {N : Nat → Int32} {P L : Nat → Nat → Int} {h : Int}
theorem m_sure {a : Int} {R Q : Nat → Int32} (e0 : N 0 = zI h) (e2 : N 2 = zI np) (e5 : N 5 = zI nl) (hx : rowsIn 6 np (0 + 6) N P) (hP : okP np P) (hl : rowsIn 2 nl (0 + 101) N L) (hL : okL nl L) (hh : 0 ≤ h ∧ h ≤ 30) (ra : (-2147483648 ≤ a ∧ a < 2147483648)) {K : Int32 → (Nat → Int32) → (Nat → Int32) → Prop} (h0 : ¬ (0 ≤ a ∧ a < np) → K (-10) (upd R 0 (R 0 + 1)) Q) (h1 : 0 ≤ a ∧ a < np → ∀ Q', K (zI (suV (TT (cL P L np) (vL L) nl np h (-1) 0) (TT (cL P L np) (vL L) nl np h a (-1)) (TT (cL P L np) (vL L) nl np h a 0) (TT (cL P L np) (vL L) nl np h a 1))) (if TT (cL P L np) (vL L) nl np h (-1) 0 = 0 then upd R 1 (R 1 + 1) else R) Q') : pX12_sure N R Q (zI a) K := by
  have h12 := hP.1
  unfold pX12_sure
  refine m_isP e2 (by omega) ra (fun g => br1 ?_) (fun g => br0 ((m_bad _ _).mpr (h0 g)))
  have hv := h1 g
  obtain ⟨q, rfl⟩ : ∃ q : Nat, a = (q : Int) := ⟨a.toNat, by omega⟩
  have bA := TT_b (c := cL P L np) (v := vL L) (nl := nl) (h := h) (p := -1) (d := 0) h12
  have b1 := TT_b (c := cL P L np) (v := vL L) (nl := nl) (h := h) (p := q) (d := -1) h12
  have b2 := TT_b (c := cL P L np) (v := vL L) (nl := nl) (h := h) (p := q) (d := 0) h12
  have b3 := TT_b (c := cL P L np) (v := vL L) (nl := nl) (h := h) (p := q) (d := 1) h12
  refine m_rb (p := -1) (d := 0) e0 e2 e5 hx hP hl hL hh rfl rfl (by omega) (by omega) (fun Q0 => ?_)
  rw [show sm (RR (cL P L np) (vL L) nl h (-1) 0 np) 31 = TT (cL P L np) (vL L) nl np h (-1) 0 from rfl]
  by_cases z : TT (cL P L np) (vL L) nl np h (-1) 0 = 0
  · refine brT (by ((try simp only [zI_lit, zI_neg, zI_add, zI_sub, zI_mul, zI_n, ne_eq]) <;> (first | rw [zI_lt (by omega) (by omega)] | rw [zI_le (by omega) (by omega)] | rw [zI_eq (by omega) (by omega)]); try omega)) ((m_no _ _).mpr ?_)
    have hw := hv Q0
    rw [if_pos z] at hw
    unfold suV at hw
    rw [if_pos z] at hw
    exact hw
  · refine brF (by ((try simp only [zI_lit, zI_neg, zI_add, zI_sub, zI_mul, zI_n, ne_eq]) <;> (first | rw [zI_lt (by omega) (by omega)] | rw [zI_le (by omega) (by omega)] | rw [zI_eq (by omega) (by omega)]); try omega)) ⟨4, brF (by decide) ?_⟩
    rw [if_neg z] at hv
    unfold suV at hv
    rw [if_neg z] at hv
    refine m_rb (p := q) (d := -1) e0 e2 e5 hx hP hl hL hh rfl rfl (by omega) (by omega) (fun Q1 => ?_)
    rw [show sm (RR (cL P L np) (vL L) nl h q (-1) np) 31 = TT (cL P L np) (vL L) nl np h q (-1) from rfl]
    by_cases y1 : TT (cL P L np) (vL L) nl np h q (-1) = TT (cL P L np) (vL L) nl np h (-1) 0
    · rw [if_pos y1] at hv
      exact brT (by rw [y1]) (hv Q1)
    · rw [if_neg y1] at hv
      refine brF (by ((try simp only [zI_lit, zI_neg, zI_add, zI_sub, zI_mul, zI_n, ne_eq]) <;> (first | rw [zI_lt (by omega) (by omega)] | rw [zI_le (by omega) (by omega)] | rw [zI_eq (by omega) (by omega)]); try omega)) (brF (by decide) (m_rb (p := q) (d := 0) e0 e2 e5 hx hP hl hL hh rfl (by decide) (by omega) (by omega) (fun Q2 => ?_)))
      rw [show sm (RR (cL P L np) (vL L) nl h q 0 np) 31 = TT (cL P L np) (vL L) nl np h q 0 from rfl]
      by_cases y2 : TT (cL P L np) (vL L) nl np h q 0 = TT (cL P L np) (vL L) nl np h (-1) 0
      · rw [if_pos y2] at hv
        exact brT (by rw [y2]) (hv Q2)
      · rw [if_neg y2] at hv
        refine brF (by ((try simp only [zI_lit, zI_neg, zI_add, zI_sub, zI_mul, zI_n, ne_eq]) <;> (first | rw [zI_lt (by omega) (by omega)] | rw [zI_le (by omega) (by omega)] | rw [zI_eq (by omega) (by omega)]); try omega)) (brF (by decide) (m_rb (p := q) (d := 1) e0 e2 e5 hx hP hl hL hh rfl (by decide) (by omega) (by omega) (fun Q3 => ?_)))
        rw [show sm (RR (cL P L np) (vL L) nl h q 1 np) 31 = TT (cL P L np) (vL L) nl np h q 1 from rfl]
        by_cases y3 : TT (cL P L np) (vL L) nl np h q 1 = TT (cL P L np) (vL L) nl np h (-1) 0
        · rw [if_pos y3] at hv
          exact brT (by rw [y3]) (hv Q3)
        · rw [if_neg y3] at hv
          exact brF (by ((try simp only [zI_lit, zI_neg, zI_add, zI_sub, zI_mul, zI_n, ne_eq]) <;> (first | rw [zI_lt (by omega) (by omega)] | rw [zI_le (by omega) (by omega)] | rw [zI_eq (by omega) (by omega)]); try omega)) (brT (by decide) (hv Q3))
end SM
set_option maxHeartbeats 4000000 in
theorem st_23 : ∀ (s_above : Int64) (s_below : Int64) (s_badCalls : Int32) (s_noCalls : Int32) (s_fullCalls : Int32) (s_road_high : Int32) (s_road_low : Int32) (s_road_passers_size : Int32) (s_road_passers_cells : Nat → Int32) (s_road_beasts_size : Int32) (s_road_beasts_cells : Nat → Int32) (s_road_checks_size : Int32) (s_road_checks_cells : Nat → Int32) (s_road_looks_size : Int32) (s_road_looks_cells : Nat → Int32) (s_trial_high : Int32) (s_trial_low : Int32) (s_trial_passers_size : Int32) (s_trial_passers_cells : Nat → Int32) (s_trial_beasts_size : Int32) (s_trial_beasts_cells : Nat → Int32) (s_trial_checks_size : Int32) (s_trial_checks_cells : Nat → Int32) (s_trial_looks_size : Int32) (s_trial_looks_cells : Nat → Int32) (s_text_length : Int32) (s_text_place : Int32) (s_text_next : Int32) (s_text_bytes : Nat → Int32) (s_text_items_size : Int32) (s_text_items_cells : Nat → Int32) (s_hiring_men : Int32) (s_hiring_goal : Int32) (s_hiring_goalMen : Int32) (s_hiring_fewest : Nat → Int32) (s_hiring_gains : Nat → Int32) (s_spread_now : Nat → Int64) (s_spread_later : Nat → Int64) (s_choices : Nat → Int32) (s_ends : Nat → Int32) (s_laterEnds : Nat → Int32) (s1_above : Int64) (s1_below : Int64) (s1_typed : Int32) (s1_at : Int32) (s1_start : Int32) (s1_sort : Int32) (s1_value : Int32) (s1_fault : Int32) (s1_itemsMany : Int32) (s1_goneHeight : Int32) (s1_goneDid : Int32) (s1_now : Nat → Int32) (s1_isKept : Nat → Int32) (s1_refused : Nat → Int32) (s1_text : Nat → Int32) (s1_items : Nat → Int32) (s1_did : Nat → Int32) (s1_fewest : Nat → Int32) (s1_chosen : Nat → Int32) (s1_ends : Nat → Int32) (s1_rows : Nat → Int32) (s1_ways : Nat → Int64) (s1_then : Nat → Int64) (o0 : Option RD) (o1 : Option RD) (v1 v2 v3 v4 : Int32), RelS s_above s_below s_badCalls s_noCalls s_fullCalls s_road_high s_road_low s_road_passers_size s_road_passers_cells s_road_beasts_size s_road_beasts_cells s_road_checks_size s_road_checks_cells s_road_looks_size s_road_looks_cells s_trial_high s_trial_low s_trial_passers_size s_trial_passers_cells s_trial_beasts_size s_trial_beasts_cells s_trial_checks_size s_trial_checks_cells s_trial_looks_size s_trial_looks_cells s_text_length s_text_place s_text_next s_text_bytes s_text_items_size s_text_items_cells s_hiring_men s_hiring_goal s_hiring_goalMen s_hiring_fewest s_hiring_gains s_spread_now s_spread_later s_choices s_ends s_laterEnds s1_above s1_below s1_typed s1_at s1_start s1_sort s1_value s1_fault s1_itemsMany s1_goneHeight s1_goneDid s1_now s1_isKept s1_refused s1_text s1_items s1_did s1_fewest s1_chosen s1_ends s1_rows s1_ways s1_then o0 o1 → pL_23 RelS s_above s_below s_badCalls s_noCalls s_fullCalls s_road_high s_road_low s_road_passers_size s_road_passers_cells s_road_beasts_size s_road_beasts_cells s_road_checks_size s_road_checks_cells s_road_looks_size s_road_looks_cells s_trial_high s_trial_low s_trial_passers_size s_trial_passers_cells s_trial_beasts_size s_trial_beasts_cells s_trial_checks_size s_trial_checks_cells s_trial_looks_size s_trial_looks_cells s_text_length s_text_place s_text_next s_text_bytes s_text_items_size s_text_items_cells s_hiring_men s_hiring_goal s_hiring_goalMen s_hiring_fewest s_hiring_gains s_spread_now s_spread_later s_choices s_ends s_laterEnds s1_above s1_below s1_typed s1_at s1_start s1_sort s1_value s1_fault s1_itemsMany s1_goneHeight s1_goneDid s1_now s1_isKept s1_refused s1_text s1_items s1_did s1_fewest s1_chosen s1_ends s1_rows s1_ways s1_then o0 o1 v1 v2 v3 v4 := by
  intro s_above s_below s_badCalls s_noCalls s_fullCalls s_road_high s_road_low s_road_passers_size s_road_passers_cells s_road_beasts_size s_road_beasts_cells s_road_checks_size s_road_checks_cells s_road_looks_size s_road_looks_cells s_trial_high s_trial_low s_trial_passers_size s_trial_passers_cells s_trial_beasts_size s_trial_beasts_cells s_trial_checks_size s_trial_checks_cells s_trial_looks_size s_trial_looks_cells s_text_length s_text_place s_text_next s_text_bytes s_text_items_size s_text_items_cells s_hiring_men s_hiring_goal s_hiring_goalMen s_hiring_fewest s_hiring_gains s_spread_now s_spread_later s_choices s_ends s_laterEnds s1_above s1_below s1_typed s1_at s1_start s1_sort s1_value s1_fault s1_itemsMany s1_goneHeight s1_goneDid s1_now s1_isKept s1_refused s1_text s1_items s1_did s1_fewest s1_chosen s1_ends s1_rows s1_ways s1_then o0 o1 v1 v2 v3 v4 hR
  obtain ⟨hRd, hI0, hI1, hT, hab, hbe, hb, hn, hfu⟩ := hR
  unfold pL_23
  obtain ⟨h, lo, np, nb, nc, nl, P, B, C, L, hok, hx, hm⟩ := id hRd
  obtain ⟨x1, x2, x3, x4, x5, x6, x7, x8, x9, x10⟩ := id hx
  obtain ⟨m1, m2, m3, m4, m5, m6, m7, m8, m9, m10⟩ := id hm
  dsimp only at x1 x2 x3 x4 x5 x6 x7 x8 x9 x10
  have hP := hok.2.2.1
  have n1 := hP.1
  subst x1 x2 x3 x5 x7 x9
  have hh := hok.1
  have hL := hok.2.2.2.2.2
  obtain ⟨y1, rfl, hz1⟩ := zI_ex v1
  refine x_sure x4 hP x10 hL hh hz1 (fun g => ?_) (fun g A B => ?_)
  · refine m_sure m1 m3 m6 m7 hP m10 hL hh hz1 (fun _ => ?_) (fun g' => absurd g' g)
    exact ⟨fun _ => ⟨hRd, hI0, hI1, hT, hab, hbe, by rw [upd_s, hb], (upd_n _ _ (by omega)).trans hn, (upd_n _ _ (by omega)).trans hfu⟩, fun z => z rfl⟩
  · refine m_sure m1 m3 m6 m7 hP m10 hL hh hz1 (fun g' => absurd g g') (fun _ Q => ?_)
    by_cases z : TT (cL P L np) (vL L) nl np h (-1) 0 = 0
    · rw [if_pos z, if_pos z]
      exact ⟨fun _ => ⟨hRd, hI0, hI1, hT, hab, hbe, (upd_n _ _ (by omega)).trans hb, by rw [upd_s, hn], (upd_n _ _ (by omega)).trans hfu⟩, fun z => z rfl⟩
    · rw [if_neg z, if_neg z]
      exact ⟨fun _ => ⟨hRd, hI0, hI1, hT, hab, hbe, hb, hn, hfu⟩, fun z => z rfl⟩
