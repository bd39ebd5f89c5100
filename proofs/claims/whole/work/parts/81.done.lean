/-! rows that fit all looks -/
def fb (c : Nat → Nat) (v : Nat → Int) (n : Nat) (q : Int) : Nat → Bool
  | 0 => true
  | k + 1 => if c k = n ∧ ¬ v k = q then false else fb c v n q k
abbrev cL (P L : Nat → Nat → Int) (np : Nat) : Nat → Nat := fun k => cn P (L k 0) np
abbrev vL (L : Nat → Nat → Int) : Nat → Int := fun k => L k 1
def fw (c : Nat → Nat) (v : Nat → Int) (n k : Nat) (W : Nat → Int) : Nat → Int := fun q => if fb c v n q k = true then W q else 0
theorem fb_s (c : Nat → Nat) (v : Nat → Int) (n : Nat) (q : Int) (k : Nat) : fb c v n q (k + 1) = if c k = n ∧ ¬ v k = q then false else fb c v n q k := rfl
section KX
variable {np nl : Nat} {cells lc : Nat → Int32} {P L : Nat → Nat → Int} {W : Nat → Int}
theorem x_kw2 (hx : rowsIn 6 np 0 cells P) (hP : okP np P) (hl : rowsIn 2 nl 0 lc L) (hL : okL nl L) {n : Nat} (hn : n ≤ 100) {kx : (Nat → Int64) → Prop} (hk : ∀ A' : Nat → Int64, lr A' (fw (cL P L np) (vL L) n nl W) → kx A') : ∀ (j k : Nat) (A : Nat → Int64), k + j = nl → lr A (fw (cL P L np) (vL L) n k W) → pX11_keepWhatWasSeen_2 (zI np) cells (zI nl) lc kx (j + 1) (zI n) (zI k) A
  | 0, k, A, hi, hA => by
    have n6 := hL.1
    rw [show k = nl by omega] at hA ⊢
    exact brT (by ((try simp only [zI_lit, zI_neg, zI_add, zI_sub, zI_mul, zI_n, ne_eq]) <;> (first | rw [zI_lt (by omega) (by omega)] | rw [zI_le (by omega) (by omega)] | rw [zI_eq (by omega) (by omega)]); try omega)) (hk A hA)
  | j + 1, k, A, hi, hA => by
    have n6 := hL.1
    have h12 := hP.1
    obtain ⟨o1, o2⟩ := hL.2.1 k (by omega)
    have e1 : zI (k : Int) + 1 = zI ((k + 1 : Nat) : Int) := by ((try simp only [zI_lit, zI_neg, zI_add, zI_sub, zI_mul, zI_n]) <;> (first | rfl | (refine zI_eqI ?_; omega)))
    have hc := cn_le P (L k 0) np
    refine brF (by ((try simp only [zI_lit, zI_neg, zI_add, zI_sub, zI_mul, zI_n, ne_eq]) <;> (first | rw [zI_lt (by omega) (by omega)] | rw [zI_le (by omega) (by omega)] | rw [zI_eq (by omega) (by omega)]); try omega)) (x_b hl (by omega) (by omega) (by omega) 0 rfl (by omega) (x_passed hx hP (by omega) ?_))
    rw [e1]
    by_cases d : cn P (L k 0) np = n
    · refine brT (by ((try simp only [zI_lit, zI_neg, zI_add, zI_sub, zI_mul, zI_n, ne_eq]) <;> (first | rw [zI_lt (by omega) (by omega)] | rw [zI_le (by omega) (by omega)] | rw [zI_eq (by omega) (by omega)]); try omega)) (x_b hl (by omega) (by omega) (by omega) 1 rfl (by omega) (x_keep hA o2 (fun A' f => x_kw2 hx hP hl hL hn hk j (k + 1) A' (by omega) (fun q hq => ?_))))
      rw [f q hq]
      refine congrArg zL ?_
      show (if (q : Int) = L k 1 then (if fb (cL P L np) (vL L) n q k = true then W q else 0) else 0) = if fb (cL P L np) (vL L) n q (k + 1) = true then W q else 0
      by_cases g : (q : Int) = L k 1
      · have es : fb (cL P L np) (vL L) n q (k + 1) = fb (cL P L np) (vL L) n q k := by rw [fb_s, if_neg (fun z => z.2 g.symm)]
        rw [if_pos g, es]
      · have es : fb (cL P L np) (vL L) n q (k + 1) = false := by rw [fb_s, if_pos ⟨d, fun z => g z.symm⟩]
        rw [if_neg g, es]; rfl
    · refine brF (by ((try simp only [zI_lit, zI_neg, zI_add, zI_sub, zI_mul, zI_n, ne_eq]) <;> (first | rw [zI_lt (by omega) (by omega)] | rw [zI_le (by omega) (by omega)] | rw [zI_eq (by omega) (by omega)]); try omega)) (x_kw2 hx hP hl hL hn hk j (k + 1) A (by omega) (fun q hq => ?_))
      rw [hA q hq]
      refine congrArg zL ?_
      show (if fb (cL P L np) (vL L) n q k = true then W q else 0) = if fb (cL P L np) (vL L) n q (k + 1) = true then W q else 0
      have es : fb (cL P L np) (vL L) n q (k + 1) = fb (cL P L np) (vL L) n q k := by rw [fb_s, if_neg (fun z => d z.1)]
      rw [es]
theorem x_kw (hx : rowsIn 6 np 0 cells P) (hP : okP np P) (hl : rowsIn 2 nl 0 lc L) (hL : okL nl L) {n : Nat} {N : Int32} (eN : N = zI n) (hn : n ≤ 100) {A : Nat → Int64} (hA : lr A W) {k : (Nat → Int64) → Prop} (hk : ∀ A' : Nat → Int64, lr A' (fw (cL P L np) (vL L) n nl W) → k A') : pX11_keepWhatWasSeen (zI np) cells (zI nl) lc A N k := by
  unfold pX11_keepWhatWasSeen
  rw [eN]
  exact ⟨nl + 1, x_kw2 hx hP hl hL hn hk nl 0 A (by omega) (fun q hq => by rw [hA q hq]; rfl)⟩
end KX
/-- what a passer may do there: all, or one deed -/
def rd (p d : Int) (i : Nat) (e : Int) : Int := if (i : Int) = p then (if d = e then 1 else 0) else 1
theorem rd_01 (p d : Int) (i : Nat) (e : Int) : rd p d i e = 0 ∨ rd p d i e = 1 := by
  unfold rd
  repeat' split
  all_goals omega
def RR (c : Nat → Nat) (v : Nat → Int) (nl : Nat) (h p d : Int) : Nat → Nat → Int
  | 0 => fw c v 0 nl (ind h)
  | i + 1 => fw c v (i + 1) nl (sc (RR c v nl h p d i) (rd p d i (-1)) (rd p d i 0) (rd p d i 1) (tkF false) (lyF false) 31)
section RX
variable {np nl : Nat} {cells lc : Nat → Int32} {P L : Nat → Nat → Int} {h p d : Int}
theorem x_rtf21 (hx : rowsIn 6 np 0 cells P) (hP : okP np P) (hl : rowsIn 2 nl 0 lc L) (hL : okL nl L) (hp : -1 ≤ p ∧ p ≤ 100) (hd : -1 ≤ d ∧ d ≤ 1) {kx : (Nat → Int64) → (Nat → Int64) → Prop} (hk : ∀ A B : Nat → Int64, lr A (RR (cL P L np) (vL L) nl h p d np) → kx A B) : ∀ (j i : Nat) (A B : Nat → Int64), i + j = np → lr A (RR (cL P L np) (vL L) nl h p d i) → pX11_rowsThatFit_21 (zI np) cells (zI nl) lc kx (j + 1) (zI p) (zI d) (zI i) A B
  | 0, i, A, B, hi, hA => by
    have h12 := hP.1
    rw [show i = np by omega] at hA ⊢
    exact brT (by ((try simp only [zI_lit, zI_neg, zI_add, zI_sub, zI_mul, zI_n, ne_eq]) <;> (first | rw [zI_lt (by omega) (by omega)] | rw [zI_le (by omega) (by omega)] | rw [zI_eq (by omega) (by omega)]); try omega)) (hk A B hA)
  | j + 1, i, A, B, hi, hA => by
    have h12 := hP.1
    have rcq := fun A' B' hA' => x_rtf21 hx hP hl hL hp hd hk j (i + 1) A' B' (by omega) hA'
    have e1 : zI (i : Int) + 1 = zI ((i + 1 : Nat) : Int) := by ((try simp only [zI_lit, zI_neg, zI_add, zI_sub, zI_mul, zI_n]) <;> (first | rfl | (refine zI_eqI ?_; omega)))
    have r1 := rd_01 p d i (-1)
    have r2 := rd_01 p d i 0
    have r3 := rd_01 p d i 1
    have last : ∀ X Y Z : Int32, X = zI (rd p d i (-1)) → Y = zI (rd p d i 0) → Z = zI (rd p d i 1) → pX11_rowsThatFit_95 (zI np) cells (zI nl) lc (pX11_rowsThatFit_21 (zI np) cells (zI nl) lc kx (j + 1)) (zI p) (zI d) (zI i) X Y Z A B := fun X Y Z eX eY eZ => by
      unfold pX11_rowsThatFit_95
      rw [eX, eY, eZ, e1]
      refine x_pass (by omega) (by omega) (by omega) false (fun _ => rfl) (fun z => absurd z (by decide)) hA (fun A1 B1 h1 => ?_)
      exact x_kw hx hP hl hL rfl (by omega) h1 (fun A2 h2 => rcq A2 B1 h2)
    refine brF (by ((try simp only [zI_lit, zI_neg, zI_add, zI_sub, zI_mul, zI_n, ne_eq]) <;> (first | rw [zI_lt (by omega) (by omega)] | rw [zI_le (by omega) (by omega)] | rw [zI_eq (by omega) (by omega)]); try omega)) ?_
    by_cases g : (i : Int) = p
    · refine brT (by rw [g]) ?_
      unfold pX11_rowsThatFit_45
      refine br0 ?_
      have u1 : ∀ e : Int, rd p d i e = if d = e then 1 else 0 := fun e => by unfold rd; rw [if_pos g]
      have third : ∀ X Y : Int32, X = zI (rd p d i (-1)) → Y = zI (rd p d i 0) → pX11_rowsThatFit_78 (zI np) cells (zI nl) lc (pX11_rowsThatFit_21 (zI np) cells (zI nl) lc kx (j + 1)) (zI p) (zI d) (zI i) 0 X Y A B := fun X Y eX eY => by
        unfold pX11_rowsThatFit_78 pX11_rowsThatFit_90
        refine br0 ?_
        by_cases q : d = 1
        · exact brT (by ((try simp only [zI_lit, zI_neg, zI_add, zI_sub, zI_mul, zI_n, ne_eq]) <;> (first | rw [zI_lt (by omega) (by omega)] | rw [zI_le (by omega) (by omega)] | rw [zI_eq (by omega) (by omega)]); try omega)) (last _ _ _ eX eY (by rw [u1, if_pos q]; rfl))
        · exact brF (by ((try simp only [zI_lit, zI_neg, zI_add, zI_sub, zI_mul, zI_n, ne_eq]) <;> (first | rw [zI_lt (by omega) (by omega)] | rw [zI_le (by omega) (by omega)] | rw [zI_eq (by omega) (by omega)]); try omega)) (last _ _ _ eX eY (by rw [u1, if_neg q]; rfl))
      have second : ∀ X : Int32, X = zI (rd p d i (-1)) → pX11_rowsThatFit_62 (zI np) cells (zI nl) lc (pX11_rowsThatFit_21 (zI np) cells (zI nl) lc kx (j + 1)) (zI p) (zI d) (zI i) 0 X A B := fun X eX => by
        unfold pX11_rowsThatFit_62 pX11_rowsThatFit_73
        refine br0 ?_
        by_cases q : d = 0
        · exact brT (by ((try simp only [zI_lit, zI_neg, zI_add, zI_sub, zI_mul, zI_n, ne_eq]) <;> (first | rw [zI_lt (by omega) (by omega)] | rw [zI_le (by omega) (by omega)] | rw [zI_eq (by omega) (by omega)]); try omega)) (third _ _ eX (by rw [u1, if_pos q]; rfl))
        · exact brF (by ((try simp only [zI_lit, zI_neg, zI_add, zI_sub, zI_mul, zI_n, ne_eq]) <;> (first | rw [zI_lt (by omega) (by omega)] | rw [zI_le (by omega) (by omega)] | rw [zI_eq (by omega) (by omega)]); try omega)) (third _ _ eX (by rw [u1, if_neg q]; rfl))
      unfold pX11_rowsThatFit_57
      by_cases q : d = -1
      · exact brT (by ((try simp only [zI_lit, zI_neg, zI_add, zI_sub, zI_mul, zI_n, ne_eq]) <;> (first | rw [zI_lt (by omega) (by omega)] | rw [zI_le (by omega) (by omega)] | rw [zI_eq (by omega) (by omega)]); try omega)) (second _ (by rw [u1, if_pos q]; rfl))
      · exact brF (by ((try simp only [zI_lit, zI_neg, zI_add, zI_sub, zI_mul, zI_n, ne_eq]) <;> (first | rw [zI_lt (by omega) (by omega)] | rw [zI_le (by omega) (by omega)] | rw [zI_eq (by omega) (by omega)]); try omega)) (second _ (by rw [u1, if_neg q]; rfl))
    · refine brF (by ((try simp only [zI_lit, zI_neg, zI_add, zI_sub, zI_mul, zI_n, ne_eq]) <;> (first | rw [zI_lt (by omega) (by omega)] | rw [zI_le (by omega) (by omega)] | rw [zI_eq (by omega) (by omega)]); try omega)) ?_
      unfold pX11_rowsThatFit_45
      refine br1 ?_
      unfold pX11_rowsThatFit_57 pX11_rowsThatFit_62
      refine br1 ?_
      unfold pX11_rowsThatFit_73 pX11_rowsThatFit_78
      refine br1 ?_
      unfold pX11_rowsThatFit_90
      have u1 : ∀ e : Int, zI (rd p d i e) = 1 := fun e => by unfold rd; rw [if_neg g]; rfl
      exact last _ _ _ (u1 _).symm (u1 _).symm (u1 _).symm
theorem x_rtf (hx : rowsIn 6 np 0 cells P) (hP : okP np P) (hl : rowsIn 2 nl 0 lc L) (hL : okL nl L) (hh : 0 ≤ h ∧ h ≤ 30) {X Y : Int32} (eX : X = zI p) (eY : Y = zI d) (hp : -1 ≤ p ∧ p ≤ 100) (hd : -1 ≤ d ∧ d ≤ 1) {A B : Nat → Int64} {k : Int32 → (Nat → Int64) → (Nat → Int64) → Prop} (hk : ∀ A' B' : Nat → Int64, k (zI (sm (RR (cL P L np) (vL L) nl h p d np) 31)) A' B') : pX11_rowsThatFit (zI h) (zI np) cells (zI nl) lc A B X Y k := by
  unfold pX11_rowsThatFit
  rw [eX, eY]
  refine x_start hh (fun A1 h1 => x_kw hx hP hl hL (n := 0) rfl (by omega) h1 (fun A2 h2 => ⟨np + 1, ?_⟩))
  refine x_rtf21 hx hP hl hL hp hd (fun A3 B3 h3 => x_up h3 (c := 30) rfl (by omega) ?_) np 0 A2 B (by omega) h2
  rw [zL_i32]
  exact hk A3 B3
end RX
/-! the reference's rows -/
section RM
variable {np nl : Nat} {N : Nat → Int32} {P L : Nat → Nat → Int} {h p d : Int}
def frm (P : Nat → Nat → Int) (n : Nat) : Int := if n = 0 then -1 else P (n - 1) 0
def nxt (P : Nat → Nat → Int) (np n : Nat) : Int := if np ≤ n then 100 else P n 0
theorem cn_fit (hP : okP np P) {n : Nat} (hn : n ≤ np) {m : Int} (hm : 0 ≤ m ∧ m ≤ 99) : cn P m np = n ↔ frm P n ≤ m ∧ m < nxt P np n := by
  have hc := cn_le P m np
  have a1 : ∀ i, i < np → (P i 0 ≤ m ↔ i < cn P m np) := cn_iff (P := P) m np hP.2.2
  unfold frm nxt
  by_cases z : n = 0
  · rw [if_pos z]
    by_cases y : np ≤ n
    · rw [if_pos y]
      constructor
      · intro _; omega
      · intro _; omega
    · rw [if_neg y]
      have b := a1 n (by omega)
      constructor
      · intro e; refine ⟨by omega, ?_⟩
        have := (not_congr b).2 (by omega)
        omega
      · intro e
        have := (not_congr b).1 (by omega)
        omega
  · rw [if_neg z]
    have b1 := a1 (n - 1) (by omega)
    by_cases y : np ≤ n
    · rw [if_pos y]
      constructor
      · intro e; exact ⟨b1.2 (by omega), by omega⟩
      · intro e
        have := b1.1 e.1
        omega
    · rw [if_neg y]
      have b := a1 n (by omega)
      constructor
      · intro e; refine ⟨b1.2 (by omega), ?_⟩
        have := (not_congr b).2 (by omega)
        omega
      · intro e
        have q1 := b1.1 e.1
        have := (not_congr b).1 (by omega)
        omega
def bI (b : Bool) : Int32 := if b = true then 1 else 0
theorem m_fit48 (e5 : N 5 = zI nl) (hP : okP np P) (hl : rowsIn 2 nl (0 + 101) N L) (hL : okL nl L) {n : Nat} (hn : n ≤ np) {q : Int} (hq : 0 ≤ q ∧ q ≤ 30) (hf : -1 ≤ frm P n ∧ frm P n ≤ 99) (hx : 0 ≤ nxt P np n ∧ nxt P np n ≤ 100) {kx : Int32 → Prop} (hk : kx (bI (fb (cL P L np) (vL L) n q nl))) : ∀ (j k : Nat), k + j = nl → pX12_fits_48 N kx (j + 1) (zI q) (zI (frm P n)) (zI (nxt P np n)) (bI (fb (cL P L np) (vL L) n q k)) (zI k)
  | 0, k, hi => by
    have n6 := hL.1
    rw [show k = nl by omega]
    exact brT (by rw [c5, e5]; ((try simp only [zI_lit, zI_neg, zI_add, zI_sub, zI_mul, zI_n, ne_eq]) <;> (first | rw [zI_lt (by omega) (by omega)] | rw [zI_le (by omega) (by omega)] | rw [zI_eq (by omega) (by omega)]); try omega)) hk
  | j + 1, k, hi => by
    have n6 := hL.1
    obtain ⟨o1, o2⟩ := hL.2.1 k (by omega)
    have rcq := m_fit48 e5 hP hl hL hn hq hf hx hk j (k + 1) (by omega)
    have e1 : zI (k : Int) + 1 = zI ((k + 1 : Nat) : Int) := by ((try simp only [zI_lit, zI_neg, zI_add, zI_sub, zI_mul, zI_n]) <;> (first | rfl | (refine zI_eqI ?_; omega)))
    have i0 : ((101 : Int32) + 2 * zI (k : Int)).toNatClampNeg = 0 + 101 + 2 * k + 0 := by ((try simp only [zI_lit, zI_neg, zI_add, zI_sub, zI_mul, zI_n]); rw [zI_clamp (by omega)]; omega)
    have i1 : ((101 : Int32) + 2 * zI (k : Int) + 1).toNatClampNeg = 0 + 101 + 2 * k + 1 := by ((try simp only [zI_lit, zI_neg, zI_add, zI_sub, zI_mul, zI_n]); rw [zI_clamp (by omega)]; omega)
    have cf := cn_fit hP hn (m := L k 0) o1
    rw [fb_s] at rcq
    refine brF (by rw [c5, e5]; ((try simp only [zI_lit, zI_neg, zI_add, zI_sub, zI_mul, zI_n, ne_eq]) <;> (first | rw [zI_lt (by omega) (by omega)] | rw [zI_le (by omega) (by omega)] | rw [zI_eq (by omega) (by omega)]); try omega)) ⟨by ((try simp only [zI_lit, zI_neg, zI_add, zI_sub, zI_mul, zI_n]); rw [zI_in (by omega)]; omega), ?_⟩
    rw [e1, i0, i1, hl k 0 (by omega) (by omega), hl k 1 (by omega) (by omega)]
    cases b : fb (cL P L np) (vL L) n q k with
    | false =>
      rw [b, ite_self] at rcq
      exact brT rfl rcq
    | true =>
      rw [b] at rcq
      refine brF (by decide) ?_
      by_cases g1 : L k 0 < frm P n
      · rw [if_neg (fun z => absurd (cf.1 z.1).1 (by omega))] at rcq
        exact brT (by ((try simp only [zI_lit, zI_neg, zI_add, zI_sub, zI_mul, zI_n, ne_eq]) <;> (first | rw [zI_lt (by omega) (by omega)] | rw [zI_le (by omega) (by omega)] | rw [zI_eq (by omega) (by omega)]); try omega)) rcq
      · refine brF (by ((try simp only [zI_lit, zI_neg, zI_add, zI_sub, zI_mul, zI_n, ne_eq]) <;> (first | rw [zI_lt (by omega) (by omega)] | rw [zI_le (by omega) (by omega)] | rw [zI_eq (by omega) (by omega)]); try omega)) ?_
        by_cases g2 : nxt P np n ≤ L k 0
        · rw [if_neg (fun z => absurd (cf.1 z.1).2 (by omega))] at rcq
          exact brT (by ((try simp only [zI_lit, zI_neg, zI_add, zI_sub, zI_mul, zI_n, ne_eq]) <;> (first | rw [zI_lt (by omega) (by omega)] | rw [zI_le (by omega) (by omega)] | rw [zI_eq (by omega) (by omega)]); try omega)) rcq
        · refine brF (by ((try simp only [zI_lit, zI_neg, zI_add, zI_sub, zI_mul, zI_n, ne_eq]) <;> (first | rw [zI_lt (by omega) (by omega)] | rw [zI_le (by omega) (by omega)] | rw [zI_eq (by omega) (by omega)]); try omega)) ⟨by ((try simp only [zI_lit, zI_neg, zI_add, zI_sub, zI_mul, zI_n]); rw [zI_in (by omega)]; omega), ?_⟩
          by_cases g3 : L k 1 = q
          · rw [if_neg (fun z => z.2 g3)] at rcq
            exact brT (by ((try simp only [zI_lit, zI_neg, zI_add, zI_sub, zI_mul, zI_n, ne_eq]) <;> (first | rw [zI_lt (by omega) (by omega)] | rw [zI_le (by omega) (by omega)] | rw [zI_eq (by omega) (by omega)]); try omega)) rcq
          · rw [if_pos ⟨cf.2 ⟨by omega, by omega⟩, g3⟩] at rcq
            exact brF (by ((try simp only [zI_lit, zI_neg, zI_add, zI_sub, zI_mul, zI_n, ne_eq]) <;> (first | rw [zI_lt (by omega) (by omega)] | rw [zI_le (by omega) (by omega)] | rw [zI_eq (by omega) (by omega)]); try omega)) rcq
theorem m_fits (e2 : N 2 = zI np) (e5 : N 5 = zI nl) (hx : rowsIn 6 np (0 + 6) N P) (hP : okP np P) (hl : rowsIn 2 nl (0 + 101) N L) (hL : okL nl L) {n : Nat} (hn : n ≤ np) {q : Int} (hq : 0 ≤ q ∧ q ≤ 30) {X : Int32} (eX : X = zI ((n : Int) - 1)) {k : Int32 → Prop} (hk : k (bI (fb (cL P L np) (vL L) n q nl))) : pX12_fits N X (zI q) k := by
  have h12 := hP.1
  have hf : -1 ≤ frm P n ∧ frm P n ≤ 99 := by
    unfold frm
    by_cases z : n = 0
    · rw [if_pos z]; omega
    · rw [if_neg z]
      have := (hP.2.1 (n - 1) (by omega)).1
      omega
  have hy : 0 ≤ nxt P np n ∧ nxt P np n ≤ 100 := by
    unfold nxt
    by_cases z : np ≤ n
    · rw [if_pos z]; omega
    · rw [if_neg z]
      have := (hP.2.1 n (by omega)).1
      omega
  have last : pX12_fits_40 N k (zI q) (zI (frm P n)) (zI (nxt P np n)) := by
    unfold pX12_fits_40
    refine ⟨nl + 1, m_fit48 e5 hP hl hL hn hq hf hy ⟨?_, hk⟩ nl 0 (by omega)⟩
    unfold bI
    split
    · exact vbz_1
    · exact vbz_0
  have mid : pX12_fits_14 N k (zI ((n : Int) - 1)) (zI q) (zI (frm P n)) := by
    unfold pX12_fits_14
    rw [show zI ((n : Int) - 1) + 1 = zI n by ((try simp only [zI_lit, zI_neg, zI_add, zI_sub, zI_mul, zI_n]) <;> (first | rfl | (refine zI_eqI ?_; omega))), c2, e2]
    by_cases z : np ≤ n
    · refine brT (by ((try simp only [zI_lit, zI_neg, zI_add, zI_sub, zI_mul, zI_n, ne_eq]) <;> (first | rw [zI_lt (by omega) (by omega)] | rw [zI_le (by omega) (by omega)] | rw [zI_eq (by omega) (by omega)]); try omega)) ?_
      unfold nxt at last
      rw [if_pos z] at last
      exact last
    · refine brF (by ((try simp only [zI_lit, zI_neg, zI_add, zI_sub, zI_mul, zI_n, ne_eq]) <;> (first | rw [zI_lt (by omega) (by omega)] | rw [zI_le (by omega) (by omega)] | rw [zI_eq (by omega) (by omega)]); try omega)) (m_p hx h12 (by omega) 0 rfl (by omega) ?_)
      unfold nxt at last
      rw [if_neg z] at last
      exact last
  unfold pX12_fits
  rw [eX]
  by_cases z : n = 0
  · refine brF (by ((try simp only [zI_lit, zI_neg, zI_add, zI_sub, zI_mul, zI_n, ne_eq]) <;> (first | rw [zI_lt (by omega) (by omega)] | rw [zI_le (by omega) (by omega)] | rw [zI_eq (by omega) (by omega)]); try omega)) ?_
    unfold frm at mid
    rw [if_pos z] at mid
    exact mid
  · refine brT (by ((try simp only [zI_lit, zI_neg, zI_add, zI_sub, zI_mul, zI_n, ne_eq]) <;> (first | rw [zI_lt (by omega) (by omega)] | rw [zI_le (by omega) (by omega)] | rw [zI_eq (by omega) (by omega)]); try omega)) ?_
    unfold frm at mid
    rw [if_neg z] at mid
    have e : zI ((n : Int) - 1) = zI ((n - 1 : Nat) : Int) := by ((try simp only [zI_lit, zI_neg, zI_add, zI_sub, zI_mul, zI_n]) <;> (first | rfl | (refine zI_eqI ?_; omega)))
    rw [e]
    rw [e] at mid
    exact m_p hx h12 (by omega) 0 rfl (by omega) mid
/-- one deed at one height -/
theorem m_rb1 (e2 : N 2 = zI np) (e5 : N 5 = zI nl) (hx : rowsIn 6 np (0 + 6) N P) (hP : okP np P) (hl : rowsIn 2 nl (0 + 101) N L) (hL : okL nl L) (hp : -1 ≤ p ∧ p ≤ 100) (hd : -1 ≤ d ∧ d ≤ 1) {i x : Nat} (hi : i < np) (hxx : x < 31) {e : Int} (he : -1 ≤ e ∧ e ≤ 1) {E E1 : Int32} (eE : E = zI e) (eE1 : E + 1 = E1) {W G : Nat → Int} {R : Nat → Int32} (hW : ∀ q : Nat, q < 31 → R (31 * i + q) = zI (W q)) (hG : ∀ q : Nat, q < 31 → R (31 * i + 31 + q) = zI (fw (cL P L np) (vL L) (i + 1) nl G q)) {kb : Int32 → Int32 → Int32 → Int32 → Int32 → (Nat → Int32) → Prop} (hk : ∀ R' : Nat → Int32, (∀ y : Nat, y < 31 * i + 31 ∨ 31 * i + 62 ≤ y → R' y = R y) → (∀ q : Nat, q < 31 → R' (31 * i + 31 + q) = zI (fw (cL P L np) (vL L) (i + 1) nl (fun q => G q + if (q : Int) = (x : Int) + e then W x * rd p d i e else 0) q)) → kb (zI p) (zI d) (zI i) (zI x) E1 R') : pX12_in (zI (x : Int) + E) 0 30 (fun (r_10 : Int32) => ((r_10 = (0 : Int32) → pX12_rowsBy_112 N kb (zI p) (zI d) (zI i) (zI x) E R) ∧ (¬ r_10 = (0 : Int32) → ((zI (i : Int) = zI p → ((E = zI d → pX12_rowsBy_108 N kb (zI p) (zI d) (zI i) (zI x) E R) ∧ (¬ E = zI d → pX12_rowsBy_112 N kb (zI p) (zI d) (zI i) (zI x) E R))) ∧ (¬ zI (i : Int) = zI p → pX12_rowsBy_108 N kb (zI p) (zI d) (zI i) (zI x) E R))))) := by
  have h12 := hP.1
  subst eE
  have no : (∀ q : Nat, q < 31 → (if (q : Int) = (x : Int) + e then W x * rd p d i e else 0) = 0) → pX12_rowsBy_112 N kb (zI p) (zI d) (zI i) (zI x) (zI e) R := fun g => by
    unfold pX12_rowsBy_112 pX12_rowsBy_113
    refine br0 ?_
    rw [eE1]
    refine hk R (fun _ _ => rfl) (fun q hq => ?_)
    rw [hG q hq]
    refine zI_eqI ?_
    unfold fw
    dsimp only
    rw [g q hq, Int.add_zero]
  have yes : 0 ≤ (x : Int) + e ∧ (x : Int) + e ≤ 30 → rd p d i e = 1 → pX12_rowsBy_108 N kb (zI p) (zI d) (zI i) (zI x) (zI e) R := fun g g1 => by
    unfold pX12_rowsBy_108 pX12_rowsBy_113
    refine br1 ?_
    have i0 : ((31 : Int32) * zI (i : Int) + 31 + zI (x : Int) + zI e).toNatClampNeg = 31 * i + 31 + ((x : Int) + e).toNat := by ((try simp only [zI_lit, zI_neg, zI_add, zI_sub, zI_mul, zI_n]); rw [zI_clamp (by omega)]; omega)
    have i1 : ((31 : Int32) * zI (i : Int) + zI (x : Int)).toNatClampNeg = 31 * i + x := by ((try simp only [zI_lit, zI_neg, zI_add, zI_sub, zI_mul, zI_n]); rw [zI_clamp (by omega)]; omega)
    have hGx := hG ((x : Int) + e).toNat (by omega)
    rw [eE1, zI_add (x : Int) e]
    refine m_fits e2 e5 hx hP hl hL (n := i + 1) (by omega) g (by ((try simp only [zI_lit, zI_neg, zI_add, zI_sub, zI_mul, zI_n]) <;> (first | rfl | (refine zI_eqI ?_; omega)))) ?_
    cases b : fb (cL P L np) (vL L) (i + 1) ((x : Int) + e) nl with
    | false =>
      refine brT rfl (hk R (fun _ _ => rfl) (fun q hq => ?_))
      rw [hG q hq]
      refine zI_eqI ?_
      unfold fw
      dsimp only
      by_cases c : (q : Int) = (x : Int) + e
      · rw [c, b, if_neg (by decide), if_neg (by decide)]
      · rw [if_neg c, Int.add_zero]
    | true =>
      refine brF (by decide) ?_
      refine ⟨by ((try simp only [zI_lit, zI_neg, zI_add, zI_sub, zI_mul, zI_n]); rw [zI_in (by omega)]; omega), by ((try simp only [zI_lit, zI_neg, zI_add, zI_sub, zI_mul, zI_n]); rw [zI_in (by omega)]; omega), by ((try simp only [zI_lit, zI_neg, zI_add, zI_sub, zI_mul, zI_n]); rw [zI_in (by omega)]; omega), ?_⟩
      rw [i0, i1, hGx, hW x hxx, zI_add]
      refine hk _ (fun y hy => upd_n _ _ (by omega)) (fun q hq => ?_)
      by_cases c : (q : Int) = (x : Int) + e
      · rw [show ((x : Int) + e).toNat = q by omega, upd_s]
        refine zI_eqI ?_
        unfold fw
        dsimp only
        rw [c, b, if_pos rfl, if_pos rfl, if_pos rfl, g1, Int.mul_one]
      · rw [upd_n _ _ (by omega), hG q hq]
        refine zI_eqI ?_
        unfold fw
        dsimp only
        rw [if_neg c, Int.add_zero]
  rw [zI_add]
  refine m_wi (b := 0) (c := 30) rfl rfl (by omega) (by omega) (by omega) (fun g => br1 ?_) (fun g => br0 (no (fun q hq => if_neg (by omega))))
  by_cases c : (i : Int) = p
  · refine brT (by rw [c]) ?_
    by_cases f : e = d
    · exact brT (by rw [f]) (yes g (by unfold rd; rw [if_pos c, if_pos f.symm]))
    · refine brF (by ((try simp only [zI_lit, zI_neg, zI_add, zI_sub, zI_mul, zI_n, ne_eq]) <;> (first | rw [zI_lt (by omega) (by omega)] | rw [zI_le (by omega) (by omega)] | rw [zI_eq (by omega) (by omega)]); try omega)) (no (fun q hq => ?_))
      have : rd p d i e = 0 := by unfold rd; rw [if_pos c, if_neg (fun z => f z.symm)]
      rw [this, Int.mul_zero, ite_self]
  · exact brF (by ((try simp only [zI_lit, zI_neg, zI_add, zI_sub, zI_mul, zI_n, ne_eq]) <;> (first | rw [zI_lt (by omega) (by omega)] | rw [zI_le (by omega) (by omega)] | rw [zI_eq (by omega) (by omega)]); try omega)) (yes g (by unfold rd; rw [if_neg c]))
theorem m_rb1s (e2 : N 2 = zI np) (e5 : N 5 = zI nl) (hx : rowsIn 6 np (0 + 6) N P) (hP : okP np P) (hl : rowsIn 2 nl (0 + 101) N L) (hL : okL nl L) (hp : -1 ≤ p ∧ p ≤ 100) (hd : -1 ≤ d ∧ d ≤ 1) {i x : Nat} (hi : i < np) (hxx : x < 31) {e : Int} (he : -1 ≤ e ∧ e ≤ 1) {E E1 : Int32} (eE : E = zI e) (eE1 : E + 1 = E1) {W G : Nat → Int} {R : Nat → Int32} (hW : ∀ q : Nat, q < 31 → R (31 * i + q) = zI (W q)) (hG : ∀ q : Nat, q < 31 → R (31 * i + 31 + q) = zI (fw (cL P L np) (vL L) (i + 1) nl G q)) {kx : Int32 → Int32 → Int32 → Int32 → (Nat → Int32) → Prop} {n : Nat} (hk : ∀ R' : Nat → Int32, (∀ y : Nat, y < 31 * i + 31 ∨ 31 * i + 62 ≤ y → R' y = R y) → (∀ q : Nat, q < 31 → R' (31 * i + 31 + q) = zI (fw (cL P L np) (vL L) (i + 1) nl (fun q => G q + if (q : Int) = (x : Int) + e then W x * rd p d i e else 0) q)) → pX12_rowsBy_77 N kx n (zI p) (zI d) (zI i) (zI x) E1 R') : pX12_rowsBy_77 N kx (n + 1) (zI p) (zI d) (zI i) (zI x) E R := by
  have b := m_rb1 e2 e5 hx hP hl hL hp hd hi hxx he eE eE1 hW hG (kb := pX12_rowsBy_77 N kx n) hk
  exact brF (by rw [eE]; ((try simp only [zI_lit, zI_neg, zI_add, zI_sub, zI_mul, zI_n, ne_eq]) <;> (first | rw [zI_lt (by omega) (by omega)] | rw [zI_le (by omega) (by omega)] | rw [zI_eq (by omega) (by omega)]); try omega)) b
theorem m_rb77 (e2 : N 2 = zI np) (e5 : N 5 = zI nl) (hx : rowsIn 6 np (0 + 6) N P) (hP : okP np P) (hl : rowsIn 2 nl (0 + 101) N L) (hL : okL nl L) (hp : -1 ≤ p ∧ p ≤ 100) (hd : -1 ≤ d ∧ d ≤ 1) {i x : Nat} (hi : i < np) (hxx : x < 31) {W : Nat → Int} {R : Nat → Int32} (hW : ∀ q : Nat, q < 31 → R (31 * i + q) = zI (W q)) (hG : ∀ q : Nat, q < 31 → R (31 * i + 31 + q) = zI (fw (cL P L np) (vL L) (i + 1) nl (sc W (rd p d i (-1)) (rd p d i 0) (rd p d i 1) (tkF false) (lyF false) x) q)) {kx : Int32 → Int32 → Int32 → Int32 → (Nat → Int32) → Prop} (hk : ∀ R' : Nat → Int32, (∀ y : Nat, y < 31 * i + 31 ∨ 31 * i + 62 ≤ y → R' y = R y) → (∀ q : Nat, q < 31 → R' (31 * i + 31 + q) = zI (fw (cL P L np) (vL L) (i + 1) nl (sc W (rd p d i (-1)) (rd p d i 0) (rd p d i 1) (tkF false) (lyF false) (x + 1)) q)) → kx (zI p) (zI d) (zI i) (zI x) R') : pX12_rowsBy_77 N kx 4 (zI p) (zI d) (zI i) (zI x) (-1) R := by
  refine m_rb1s (n := 3) e2 e5 hx hP hl hL hp hd hi hxx (e := -1) (by omega) (E1 := 0) rfl (by decide) hW hG (fun R1 s1 g1 => ?_)
  refine m_rb1s (n := 2) e2 e5 hx hP hl hL hp hd hi hxx (e := 0) (by omega) (E1 := 1) rfl (by decide) (fun q hq => by rw [s1 _ (by omega)]; exact hW q hq) g1 (fun R2 s2 g2 => ?_)
  refine m_rb1s (n := 1) e2 e5 hx hP hl hL hp hd hi hxx (e := 1) (by omega) (E1 := 2) rfl (by decide) (fun q hq => by rw [s2 _ (by omega), s1 _ (by omega)]; exact hW q hq) g2 (fun R3 s3 g3 => ?_)
  refine brT (by decide) (hk R3 (fun y hy => by rw [s3 y hy, s2 y hy, s1 y hy]) (fun q hq => ?_))
  rw [g3 q hq]
  refine zI_eqI ?_
  have ea : tkF false x = (x : Int) + -1 := by unfold tkF; rw [if_pos (Or.inr rfl)]; omega
  have eb : lyF false x = (x : Int) + 1 := by unfold lyF; rw [if_pos (Or.inr rfl)]
  unfold fw
  dsimp only
  rw [show sc W (rd p d i (-1)) (rd p d i 0) (rd p d i 1) (tkF false) (lyF false) (x + 1) q = sc W (rd p d i (-1)) (rd p d i 0) (rd p d i 1) (tkF false) (lyF false) x q + ct W (rd p d i (-1)) (rd p d i 0) (rd p d i 1) (tkF false) (lyF false) x q from rfl]
  unfold ct
  rw [ea, eb, Int.add_zero, Int.add_assoc, Int.add_assoc, Int.add_assoc]
theorem m_rb67 (e2 : N 2 = zI np) (e5 : N 5 = zI nl) (hx : rowsIn 6 np (0 + 6) N P) (hP : okP np P) (hl : rowsIn 2 nl (0 + 101) N L) (hL : okL nl L) (hp : -1 ≤ p ∧ p ≤ 100) (hd : -1 ≤ d ∧ d ≤ 1) {i : Nat} (hi : i < np) {W : Nat → Int} {kx : Int32 → Int32 → Int32 → (Nat → Int32) → Prop} : ∀ (j x : Nat) (R : Nat → Int32), x + j = 31 → (∀ q : Nat, q < 31 → R (31 * i + q) = zI (W q)) → (∀ q : Nat, q < 31 → R (31 * i + 31 + q) = zI (fw (cL P L np) (vL L) (i + 1) nl (sc W (rd p d i (-1)) (rd p d i 0) (rd p d i 1) (tkF false) (lyF false) x) q)) → (∀ R' : Nat → Int32, (∀ y : Nat, y < 31 * i + 31 ∨ 31 * i + 62 ≤ y → R' y = R y) → (∀ q : Nat, q < 31 → R' (31 * i + 31 + q) = zI (fw (cL P L np) (vL L) (i + 1) nl (sc W (rd p d i (-1)) (rd p d i 0) (rd p d i 1) (tkF false) (lyF false) 31) q)) → kx (zI p) (zI d) (zI i) R') → pX12_rowsBy_67 N kx (j + 1) (zI p) (zI d) (zI i) (zI x) R
  | 0, x, R, hj, hW, hG, hk => by
    rw [show x = 31 by omega] at hG ⊢
    exact brT (by ((try simp only [zI_lit, zI_neg, zI_add, zI_sub, zI_mul, zI_n, ne_eq]) <;> (first | rw [zI_lt (by omega) (by omega)] | rw [zI_le (by omega) (by omega)] | rw [zI_eq (by omega) (by omega)]); try omega)) (hk R (fun _ _ => rfl) hG)
  | j + 1, x, R, hj, hW, hG, hk => by
    have e1 : zI (x : Int) + 1 = zI ((x + 1 : Nat) : Int) := by ((try simp only [zI_lit, zI_neg, zI_add, zI_sub, zI_mul, zI_n]) <;> (first | rfl | (refine zI_eqI ?_; omega)))
    refine brF (by ((try simp only [zI_lit, zI_neg, zI_add, zI_sub, zI_mul, zI_n, ne_eq]) <;> (first | rw [zI_lt (by omega) (by omega)] | rw [zI_le (by omega) (by omega)] | rw [zI_eq (by omega) (by omega)]); try omega)) ⟨4, m_rb77 e2 e5 hx hP hl hL hp hd hi (by omega) hW hG (fun R1 s1 g1 => ?_)⟩
    rw [e1]
    refine m_rb67 e2 e5 hx hP hl hL hp hd hi j (x + 1) R1 (by omega) (fun q hq => ?_) g1 (fun R2 s2 g2 => hk R2 (fun y hy => ?_) g2)
    · rw [s1 _ (by omega)]; exact hW q hq
    · rw [s2 y hy, s1 y hy]
theorem m_rb54 (e2 : N 2 = zI np) (e5 : N 5 = zI nl) (hx : rowsIn 6 np (0 + 6) N P) (hP : okP np P) (hl : rowsIn 2 nl (0 + 101) N L) (hL : okL nl L) (hp : -1 ≤ p ∧ p ≤ 100) (hd : -1 ≤ d ∧ d ≤ 1) {kx : (Nat → Int32) → Prop} (hk : ∀ R' : Nat → Int32, (∀ q : Nat, q < 31 → R' (31 * np + q) = zI (RR (cL P L np) (vL L) nl h p d np q)) → kx R') : ∀ (j i : Nat) (R : Nat → Int32), i + j = np → (∀ q : Nat, q < 31 → R (31 * i + q) = zI (RR (cL P L np) (vL L) nl h p d i q)) → (∀ y : Nat, 31 * i + 31 ≤ y → y < 403 → R y = zI 0) → pX12_rowsBy_54 N kx (j + 1) (zI p) (zI d) (zI i) R
  | 0, i, R, hj, hW, hZ => by
    have h12 := hP.1
    rw [show i = np by omega] at hW ⊢
    exact brT (by rw [c2, e2]; ((try simp only [zI_lit, zI_neg, zI_add, zI_sub, zI_mul, zI_n, ne_eq]) <;> (first | rw [zI_lt (by omega) (by omega)] | rw [zI_le (by omega) (by omega)] | rw [zI_eq (by omega) (by omega)]); try omega)) (hk R hW)
  | j + 1, i, R, hj, hW, hZ => by
    have h12 := hP.1
    have e1 : zI (i : Int) + 1 = zI ((i + 1 : Nat) : Int) := by ((try simp only [zI_lit, zI_neg, zI_add, zI_sub, zI_mul, zI_n]) <;> (first | rfl | (refine zI_eqI ?_; omega)))
    refine brF (by rw [c2, e2]; ((try simp only [zI_lit, zI_neg, zI_add, zI_sub, zI_mul, zI_n, ne_eq]) <;> (first | rw [zI_lt (by omega) (by omega)] | rw [zI_le (by omega) (by omega)] | rw [zI_eq (by omega) (by omega)]); try omega)) ⟨32, m_rb67 e2 e5 hx hP hl hL hp hd (by omega) 31 0 R (by omega) hW (fun q hq => ?_) (fun R1 s1 g1 => ?_)⟩
    · rw [hZ _ (by omega) (by omega)]
      refine zI_eqI ?_
      unfold fw
      exact (ite_self 0).symm
    · rw [e1]
      refine m_rb54 e2 e5 hx hP hl hL hp hd hk j (i + 1) R1 (by omega) (fun q hq => ?_) (fun y a b => ?_)
      · rw [show 31 * (i + 1) + q = 31 * i + 31 + q by omega]; exact g1 q hq
      · rw [s1 y (by omega)]; exact hZ y (by omega) b
theorem m_rb189 (e2 : N 2 = zI np) (hP : okP np P) {R : Nat → Int32} {W : Nat → Int} (hW : ∀ q : Nat, q < 31 → R (31 * np + q) = zI (W q)) {kx : Int32 → (Nat → Int32) → Prop} (hk : kx (zI (sm W 31)) R) : ∀ (j i : Nat), i + j = 31 → pX12_rowsBy_189 N kx (j + 1) (zI (sm W i)) (zI i) R
  | 0, i, hi => by
    rw [show i = 31 by omega]
    exact brT (by ((try simp only [zI_lit, zI_neg, zI_add, zI_sub, zI_mul, zI_n, ne_eq]) <;> (first | rw [zI_lt (by omega) (by omega)] | rw [zI_le (by omega) (by omega)] | rw [zI_eq (by omega) (by omega)]); try omega)) hk
  | j + 1, i, hi => by
    have h12 := hP.1
    have e1 : zI (i : Int) + 1 = zI ((i + 1 : Nat) : Int) := by ((try simp only [zI_lit, zI_neg, zI_add, zI_sub, zI_mul, zI_n]) <;> (first | rfl | (refine zI_eqI ?_; omega)))
    have e3 : ((31 : Int32) * zI (np : Int) + zI (i : Int)).toNatClampNeg = 31 * np + i := by ((try simp only [zI_lit, zI_neg, zI_add, zI_sub, zI_mul, zI_n]); rw [zI_clamp (by omega)]; omega)
    refine brF (by ((try simp only [zI_lit, zI_neg, zI_add, zI_sub, zI_mul, zI_n, ne_eq]) <;> (first | rw [zI_lt (by omega) (by omega)] | rw [zI_le (by omega) (by omega)] | rw [zI_eq (by omega) (by omega)]); try omega)) ?_
    rw [c2, e2]
    refine ⟨by ((try simp only [zI_lit, zI_neg, zI_add, zI_sub, zI_mul, zI_n]); rw [zI_in (by omega)]; omega), ?_⟩
    rw [e1, e3, hW i (by omega), zI_add]
    exact m_rb189 e2 hP hW hk j (i + 1) (by omega)
theorem m_rb2 {X Y : Int32} {kx : Int32 → Int32 → (Nat → Int32) → Prop} : ∀ (j i : Nat) (R : Nat → Int32), i + j = 403 → (∀ R' : Nat → Int32, (∀ q : Nat, i ≤ q → q < 403 → R' q = zI 0) → (∀ q : Nat, q < i → R' q = R q) → kx X Y R') → pX12_rowsBy_2 kx (j + 1) X Y (zI i) R
  | 0, i, R, hi, hk => brT (by ((try simp only [zI_lit, zI_neg, zI_add, zI_sub, zI_mul, zI_n, ne_eq]) <;> (first | rw [zI_lt (by omega) (by omega)] | rw [zI_le (by omega) (by omega)] | rw [zI_eq (by omega) (by omega)]); try omega)) (hk R (fun q a b => absurd b (by omega)) (fun _ _ => rfl))
  | j + 1, i, R, hi, hk => by
    have e1 : zI (i : Int) + 1 = zI ((i + 1 : Nat) : Int) := by ((try simp only [zI_lit, zI_neg, zI_add, zI_sub, zI_mul, zI_n]) <;> (first | rfl | (refine zI_eqI ?_; omega)))
    have e3 : (zI (i : Int)).toNatClampNeg = i := by ((try simp only [zI_lit, zI_neg, zI_add, zI_sub, zI_mul, zI_n]); rw [zI_clamp (by omega)]; omega)
    refine brF (by ((try simp only [zI_lit, zI_neg, zI_add, zI_sub, zI_mul, zI_n, ne_eq]) <;> (first | rw [zI_lt (by omega) (by omega)] | rw [zI_le (by omega) (by omega)] | rw [zI_eq (by omega) (by omega)]); try omega)) ⟨by ((try simp only [zI_lit, zI_neg, zI_add, zI_sub, zI_mul, zI_n]); rw [zI_in (by omega)]; omega), ?_⟩
    rw [e1, e3]
    refine m_rb2 j (i + 1) _ (by omega) (fun R' f1 f2 => hk R' (fun q a b => ?_) (fun q a => ?_))
    · by_cases c : q = i
      · rw [c, f2 _ (by omega), upd_s]; rfl
      · exact f1 q (by omega) b
    · rw [f2 q (by omega), upd_n _ _ (by omega)]
theorem m_rb (e0 : N 0 = zI h) (e2 : N 2 = zI np) (e5 : N 5 = zI nl) (hx : rowsIn 6 np (0 + 6) N P) (hP : okP np P) (hl : rowsIn 2 nl (0 + 101) N L) (hL : okL nl L) (hh : 0 ≤ h ∧ h ≤ 30) {X Y : Int32} (eX : X = zI p) (eY : Y = zI d) (hp : -1 ≤ p ∧ p ≤ 100) (hd : -1 ≤ d ∧ d ≤ 1) {R : Nat → Int32} {k : Int32 → (Nat → Int32) → Prop} (hk : ∀ R' : Nat → Int32, k (zI (sm (RR (cL P L np) (vL L) nl h p d np) 31)) R') : pX12_rowsBy N R X Y k := by
  unfold pX12_rowsBy
  rw [eX, eY]
  refine ⟨404, m_rb2 403 0 R (by omega) (fun R0 f0 _ => ?_)⟩
  rw [c0, e0]
  have go : ∀ y : Int32, y = bI (fb (cL P L np) (vL L) 0 h nl) → pX12_rowsBy_51 N k (zI p) (zI d) (zI h) y R0 := fun y ey => by
    unfold pX12_rowsBy_51
    rw [zI_clamp (by omega)]
    refine ⟨by ((try simp only [zI_lit, zI_neg, zI_add, zI_sub, zI_mul, zI_n]); rw [zI_in (by omega)]; omega), np + 1, m_rb54 (h := h) e2 e5 hx hP hl hL hp hd (fun R1 g1 => ⟨32, m_rb189 e2 hP g1 (hk R1) 31 0 (by omega)⟩) np 0 _ (by omega) (fun q hq => ?_) (fun y a b => ?_)⟩
    · rw [show 31 * 0 + q = q by omega]
      show _ = zI (if fb (cL P L np) (vL L) 0 q nl = true then ind h q else 0)
      unfold ind
      by_cases c : (q : Int) = h
      · rw [show h.toNat = q by omega, upd_s, ey, c, if_pos rfl]
        unfold bI
        by_cases b : fb (cL P L np) (vL L) 0 h nl = true
        · rw [if_pos b, if_pos b]; rfl
        · rw [if_neg b, if_neg b]; rfl
      · rw [upd_n _ _ (by omega), f0 q (by omega) (by omega), if_neg c, ite_self]
    · rw [upd_n _ _ (by omega)]
      exact f0 y (by omega) b
  refine m_fits e2 e5 hx hP hl hL (n := 0) (by omega) hh (by decide) ?_
  cases b : fb (cL P L np) (vL L) 0 h nl with
  | false => exact brT rfl (go 0 (by rw [b]; rfl))
  | true => exact brF (by decide) (go 1 (by rw [b]; rfl))
end RM
set_option maxHeartbeats 4000000 in
theorem st_22 : ∀ (s_above : Int64) (s_below : Int64) (s_badCalls : Int32) (s_noCalls : Int32) (s_fullCalls : Int32) (s_road_high : Int32) (s_road_low : Int32) (s_road_passers_size : Int32) (s_road_passers_cells : Nat → Int32) (s_road_beasts_size : Int32) (s_road_beasts_cells : Nat → Int32) (s_road_checks_size : Int32) (s_road_checks_cells : Nat → Int32) (s_road_looks_size : Int32) (s_road_looks_cells : Nat → Int32) (s_trial_high : Int32) (s_trial_low : Int32) (s_trial_passers_size : Int32) (s_trial_passers_cells : Nat → Int32) (s_trial_beasts_size : Int32) (s_trial_beasts_cells : Nat → Int32) (s_trial_checks_size : Int32) (s_trial_checks_cells : Nat → Int32) (s_trial_looks_size : Int32) (s_trial_looks_cells : Nat → Int32) (s_text_length : Int32) (s_text_place : Int32) (s_text_next : Int32) (s_text_bytes : Nat → Int32) (s_text_items_size : Int32) (s_text_items_cells : Nat → Int32) (s_hiring_men : Int32) (s_hiring_goal : Int32) (s_hiring_goalMen : Int32) (s_hiring_fewest : Nat → Int32) (s_hiring_gains : Nat → Int32) (s_spread_now : Nat → Int64) (s_spread_later : Nat → Int64) (s_choices : Nat → Int32) (s_ends : Nat → Int32) (s_laterEnds : Nat → Int32) (s1_above : Int64) (s1_below : Int64) (s1_typed : Int32) (s1_at : Int32) (s1_start : Int32) (s1_sort : Int32) (s1_value : Int32) (s1_fault : Int32) (s1_itemsMany : Int32) (s1_goneHeight : Int32) (s1_goneDid : Int32) (s1_now : Nat → Int32) (s1_isKept : Nat → Int32) (s1_refused : Nat → Int32) (s1_text : Nat → Int32) (s1_items : Nat → Int32) (s1_did : Nat → Int32) (s1_fewest : Nat → Int32) (s1_chosen : Nat → Int32) (s1_ends : Nat → Int32) (s1_rows : Nat → Int32) (s1_ways : Nat → Int64) (s1_then : Nat → Int64) (o0 : Option RD) (o1 : Option RD) (v1 v2 v3 v4 : Int32), RelS s_above s_below s_badCalls s_noCalls s_fullCalls s_road_high s_road_low s_road_passers_size s_road_passers_cells s_road_beasts_size s_road_beasts_cells s_road_checks_size s_road_checks_cells s_road_looks_size s_road_looks_cells s_trial_high s_trial_low s_trial_passers_size s_trial_passers_cells s_trial_beasts_size s_trial_beasts_cells s_trial_checks_size s_trial_checks_cells s_trial_looks_size s_trial_looks_cells s_text_length s_text_place s_text_next s_text_bytes s_text_items_size s_text_items_cells s_hiring_men s_hiring_goal s_hiring_goalMen s_hiring_fewest s_hiring_gains s_spread_now s_spread_later s_choices s_ends s_laterEnds s1_above s1_below s1_typed s1_at s1_start s1_sort s1_value s1_fault s1_itemsMany s1_goneHeight s1_goneDid s1_now s1_isKept s1_refused s1_text s1_items s1_did s1_fewest s1_chosen s1_ends s1_rows s1_ways s1_then o0 o1 → pL_22 RelS s_above s_below s_badCalls s_noCalls s_fullCalls s_road_high s_road_low s_road_passers_size s_road_passers_cells s_road_beasts_size s_road_beasts_cells s_road_checks_size s_road_checks_cells s_road_looks_size s_road_looks_cells s_trial_high s_trial_low s_trial_passers_size s_trial_passers_cells s_trial_beasts_size s_trial_beasts_cells s_trial_checks_size s_trial_checks_cells s_trial_looks_size s_trial_looks_cells s_text_length s_text_place s_text_next s_text_bytes s_text_items_size s_text_items_cells s_hiring_men s_hiring_goal s_hiring_goalMen s_hiring_fewest s_hiring_gains s_spread_now s_spread_later s_choices s_ends s_laterEnds s1_above s1_below s1_typed s1_at s1_start s1_sort s1_value s1_fault s1_itemsMany s1_goneHeight s1_goneDid s1_now s1_isKept s1_refused s1_text s1_items s1_did s1_fewest s1_chosen s1_ends s1_rows s1_ways s1_then o0 o1 v1 v2 v3 v4 := by
  intro s_above s_below s_badCalls s_noCalls s_fullCalls s_road_high s_road_low s_road_passers_size s_road_passers_cells s_road_beasts_size s_road_beasts_cells s_road_checks_size s_road_checks_cells s_road_looks_size s_road_looks_cells s_trial_high s_trial_low s_trial_passers_size s_trial_passers_cells s_trial_beasts_size s_trial_beasts_cells s_trial_checks_size s_trial_checks_cells s_trial_looks_size s_trial_looks_cells s_text_length s_text_place s_text_next s_text_bytes s_text_items_size s_text_items_cells s_hiring_men s_hiring_goal s_hiring_goalMen s_hiring_fewest s_hiring_gains s_spread_now s_spread_later s_choices s_ends s_laterEnds s1_above s1_below s1_typed s1_at s1_start s1_sort s1_value s1_fault s1_itemsMany s1_goneHeight s1_goneDid s1_now s1_isKept s1_refused s1_text s1_items s1_did s1_fewest s1_chosen s1_ends s1_rows s1_ways s1_then o0 o1 v1 v2 v3 v4 hR
  obtain ⟨hRd, hI0, hI1, hT, hab, hbe, hb, hn, hfu⟩ := hR
  unfold pL_22 pX11_done pX12_done
  obtain ⟨h, lo, np, nb, nc, nl, P, B, C, L, hok, hx, hm⟩ := id hRd
  obtain ⟨x1, x2, x3, x4, x5, x6, x7, x8, x9, x10⟩ := id hx
  obtain ⟨m1, m2, m3, m4, m5, m6, m7, m8, m9, m10⟩ := id hm
  dsimp only at x1 x2 x3 x4 x5 x6 x7 x8 x9 x10
  have hP := hok.2.2.1
  have n1 := hP.1
  subst x1 x2 x3 x5 x7 x9
  have hh := hok.1
  have hL := hok.2.2.2.2.2
  refine x_rtf (p := -1) (d := 0) x4 hP x10 hL hh rfl rfl (by omega) (by omega) (fun A B => ?_)
  refine m_rb (p := -1) (d := 0) m1 m3 m6 m7 hP m10 hL hh rfl rfl (by omega) (by omega) (fun R => ?_)
  exact ⟨fun _ => ⟨hRd, hI0, hI1, hT, hab, hbe, hb, hn, hfu⟩, fun z => z rfl⟩
