/-! hired: the fewest, from the last check back -/
def pa (P C : Nat → Nat → Int) (np c : Nat) : Nat := if c = 0 then 0 else cn P (C (c - 1) 0) np
def gw (P C : Nat → Nat → Int) (np c : Nat) (h d : Int) : Int × Int := wk P (pa P C np (c + 1) - pa P C np c) (pa P C np c) h d
def sk (f : Int → Int) : Nat → Int → Int × Int → Int × Int
  | 0, _, p => p
  | n + 1, t, p => sk f n (t + 1) (if f t < p.2 then (t, f t) else p)
def bs (f : Int → Int) (a b : Int) : Int × Int := sk f (b - a).toNat (a + 1) (a, f a)
def kf (G : Int → Int → Int) (g : Int → Int × Int) (h t : Int) : Int := ab (h - t) + G (g t).1 (g t).2
def cs (P C : Nat → Nat → Int) (np nc : Nat) : Nat → Int → Int → Int
  | 0, _, _ => 0
  | r + 1, h, d => (bs (kf (cs P C np nc r) (fun t => gw P C np (nc - r) t d) h) (C (nc - (r + 1)) 1) (C (nc - (r + 1)) 2)).2
def gk (P C : Nat → Nat → Int) (np nc c : Nat) (h d : Int) : Int → Int := kf (cs P C np nc (nc - (c + 1))) (fun t => gw P C np (c + 1) t d) h
def gg (P C : Nat → Nat → Int) (np nc c : Nat) (h d : Int) : Int × Int := bs (gk P C np nc c h d) (C c 1) (C c 2)
theorem cs_gg {P C : Nat → Nat → Int} {np nc c : Nat} (hc : c < nc) (h d : Int) : cs P C np nc (nc - c) h d = (gg P C np nc c h d).2 := by
  obtain ⟨r, er⟩ : ∃ r : Nat, nc = c + (r + 1) := ⟨nc - c - 1, by omega⟩
  have e1 : nc - c = r + 1 := by omega
  have e2 : nc - (c + 1) = r := by omega
  have e3 : nc - (r + 1) = c := by omega
  have e4 : nc - r = c + 1 := by omega
  unfold gg gk
  rw [e1, e2]
  show (bs (kf (cs P C np nc r) (fun t => gw P C np (nc - r) t d) h) (C (nc - (r + 1)) 1) (C (nc - (r + 1)) 2)).2 = _
  rw [e3, e4]
theorem gw_b (P C : Nat → Nat → Int) (np c : Nat) {h d : Int} (hh : 0 ≤ h ∧ h ≤ 30) (hd : -2 ≤ d ∧ d ≤ 1) : (0 ≤ (gw P C np c h d).1 ∧ (gw P C np c h d).1 ≤ 30) ∧ -2 ≤ (gw P C np c h d).2 ∧ (gw P C np c h d).2 ≤ 1 := wk_b P _ _ h d hh hd
theorem sk_b {f : Int → Int} {a b : Int} : ∀ (n : Nat) (t : Int) (p : Int × Int), a ≤ t → t + n ≤ b + 1 → a ≤ p.1 ∧ p.1 ≤ b → p.2 = f p.1 → (a ≤ (sk f n t p).1 ∧ (sk f n t p).1 ≤ b) ∧ (sk f n t p).2 = f (sk f n t p).1
  | 0, t, p, _, _, h1, h2 => ⟨h1, h2⟩
  | n + 1, t, p, h3, h4, h1, h2 => by
    refine sk_b n (t + 1) _ (by omega) (by omega) ?_ ?_
    · split
      · show a ≤ t ∧ t ≤ b; omega
      · exact h1
    · split
      · rfl
      · exact h2
theorem bs_b {f : Int → Int} {a b : Int} (h : a ≤ b) : (a ≤ (bs f a b).1 ∧ (bs f a b).1 ≤ b) ∧ (bs f a b).2 = f (bs f a b).1 := sk_b _ _ _ (by omega) (by omega) ⟨Int.le_refl a, h⟩ rfl
theorem cs_b {P C : Nat → Nat → Int} {np nc : Nat} (hC : okC nc C) : ∀ (r : Nat) (h d : Int), r ≤ nc → 0 ≤ h ∧ h ≤ 30 → -2 ≤ d ∧ d ≤ 1 → 0 ≤ cs P C np nc r h d ∧ cs P C np nc r h d ≤ 30 * (r : Int)
  | 0, h, d, _, _, _ => ⟨Int.le_refl 0, Int.le_refl 0⟩
  | r + 1, h, d, hr, hh, hd => by
    obtain ⟨o1, o2, o3, o4⟩ := hC.2.1 (nc - (r + 1)) (by omega)
    have q := bs_b (f := kf (cs P C np nc r) (fun t => gw P C np (nc - r) t d) h) o3
    show 0 ≤ (bs (kf (cs P C np nc r) (fun t => gw P C np (nc - r) t d) h) (C (nc - (r + 1)) 1) (C (nc - (r + 1)) 2)).2 ∧ (bs (kf (cs P C np nc r) (fun t => gw P C np (nc - r) t d) h) (C (nc - (r + 1)) 1) (C (nc - (r + 1)) 2)).2 ≤ _
    rw [q.2]
    have q1 := q.1
    generalize (bs (kf (cs P C np nc r) (fun t => gw P C np (nc - r) t d) h) (C (nc - (r + 1)) 1) (C (nc - (r + 1)) 2)).1 = t at q1 ⊢
    have b1 := gw_b P C np (nc - r) (h := t) (d := d) (by omega) hd
    have ih := cs_b (P := P) (np := np) hC r _ _ (by omega) b1.1 b1.2
    have a1 := ab_n (h - t)
    have a2 := ab_b (z := h - t) (b := 30) (by omega)
    show 0 ≤ ab (h - t) + cs P C np nc r (gw P C np (nc - r) t d).1 (gw P C np (nc - r) t d).2 ∧ ab (h - t) + cs P C np nc r (gw P C np (nc - r) t d).1 (gw P C np (nc - r) t d).2 ≤ _
    omega
theorem gk_b {P C : Nat → Nat → Int} {np nc c : Nat} (hC : okC nc C) (hc : c < nc) {h d t : Int} (hh : 0 ≤ h ∧ h ≤ 30) (hd : -2 ≤ d ∧ d ≤ 1) (ht : 0 ≤ t ∧ t ≤ 30) : 0 ≤ gk P C np nc c h d t ∧ gk P C np nc c h d t ≤ 150 := by
  have b1 := gw_b P C np (c + 1) (h := t) (d := d) ht hd
  have ih := cs_b (P := P) (np := np) hC (nc - (c + 1)) _ _ (by omega) b1.1 b1.2
  have a1 := ab_n (h - t)
  have a2 := ab_b (z := h - t) (b := 30) (by omega)
  have n5 := hC.1
  unfold gk kf
  dsimp only
  omega
theorem gg_b {P C : Nat → Nat → Int} {np nc c : Nat} (hC : okC nc C) (hc : c < nc) {h d : Int} : ((C c 1 ≤ (gg P C np nc c h d).1 ∧ (gg P C np nc c h d).1 ≤ C c 2) ∧ 0 ≤ (gg P C np nc c h d).1 ∧ (gg P C np nc c h d).1 ≤ 30) ∧ (gg P C np nc c h d).2 = gk P C np nc c h d (gg P C np nc c h d).1 := by
  obtain ⟨o1, o2, o3, o4⟩ := hC.2.1 c hc
  have q := bs_b (f := gk P C np nc c h d) o3
  exact ⟨⟨q.1, by have := q.1; unfold gg; omega⟩, q.2⟩
theorem cn_mono {P : Nat → Nat → Int} {m m' : Int} (h : m ≤ m') : ∀ n : Nat, cn P m n ≤ cn P m' n
  | 0 => Nat.le_refl 0
  | n + 1 => by
    have ih := cn_mono (P := P) h n
    unfold cn
    by_cases c : P n 0 ≤ m
    · rw [if_pos c, if_pos (by omega)]; omega
    · rw [if_neg c]
      split <;> omega
theorem pa_le {P C : Nat → Nat → Int} {np c : Nat} : pa P C np c ≤ np := by
  unfold pa
  split
  · omega
  · exact cn_le _ _ _
theorem pa_s {P C : Nat → Nat → Int} {np c : Nat} : pa P C np (c + 1) = cn P (C c 0) np := by
  unfold pa
  rw [if_neg (by omega), Nat.add_sub_cancel]
theorem pa_mono {P C : Nat → Nat → Int} {np nc c : Nat} (hC : okC nc C) (hc : c < nc) : pa P C np c ≤ pa P C np (c + 1) := by
  rw [pa_s]
  unfold pa
  split
  · omega
  · have := hC.2.2 (c - 1) c (by omega) hc
    exact cn_mono (by omega) np
theorem ab_sym (a b : Int) : ab (a - b) = ab (b - a) := by
  unfold ab
  repeat' split
  all_goals omega
/-- the place of a state -/
abbrev pl (h d : Int) : Nat := (h * 4 + d + 2).toNat
section HX
variable {np nc : Nat} {cells cc : Nat → Int32} {P C : Nat → Nat → Int}
theorem x_c (h : rowsIn 3 nc 0 cc C) (hn : nc ≤ 5) {p : Nat} (hp : p < nc) {X cI : Int32} (eX : X = zI p) (c : Nat) (ec : cI = zI c) (hc : c < 3) {k : Int32 → Prop} (hk : k (zI (C p c))) : pX7_at 15 3 cc X cI k := by
  rw [eX, ec, z3, x_at3 h hn hp hc]; exact hk
theorem x_pah (hx : rowsIn 6 np 0 cells P) (hP : okP np P) (hcx : rowsIn 3 nc 0 cc C) (hC : okC nc C) {c : Nat} (hc : c ≤ nc) {X : Int32} (eX : X = zI c) {k : Int32 → Prop} (hk : k (zI (pa P C np c))) : pX3_passedAhead (zI np) cells cc X k := by
  have n5 := hC.1
  unfold pX3_passedAhead
  rw [eX]
  unfold pa at hk
  by_cases z : c = 0
  · rw [if_pos z] at hk
    exact brF (by ((try simp only [zI_lit, zI_neg, zI_add, zI_sub, zI_mul, zI_n, ne_eq]) <;> (first | rw [zI_lt (by omega) (by omega)] | rw [zI_le (by omega) (by omega)] | rw [zI_eq (by omega) (by omega)]); try omega)) hk
  · rw [if_neg z] at hk
    obtain ⟨o1, o2⟩ := hC.2.1 (c - 1) (by omega)
    refine brT (by ((try simp only [zI_lit, zI_neg, zI_add, zI_sub, zI_mul, zI_n, ne_eq]) <;> (first | rw [zI_lt (by omega) (by omega)] | rw [zI_le (by omega) (by omega)] | rw [zI_eq (by omega) (by omega)]); try omega)) (x_c hcx n5 (p := c - 1) (by omega) (by ((try simp only [zI_lit, zI_neg, zI_add, zI_sub, zI_mul, zI_n]) <;> (first | rfl | (refine zI_eqI ?_; omega)))) 0 rfl (by omega) (x_passed hx hP (by omega) hk))
/-- what the class keeps: the fewest from a stand behind the check ahead -/
def xInv (P C : Nat → Nat → Int) (np nc : Nat) (F : Nat → Int32) (c : Nat) : Prop := ∀ k, c ≤ k → k < nc → 0 < k → ∀ t d : Int, C (k - 1) 1 ≤ t ∧ t ≤ C (k - 1) 2 → -2 ≤ d ∧ d ≤ 1 → F (124 * k + pl t d) = zI (cs P C np nc (nc - k) (gw P C np k t d).1 (gw P C np k t d).2)
theorem x_sg61 (hC : okC nc C) {c : Nat} (hc : c < nc) {F : Nat → Int32} (hF : xInv P C np nc F (c + 1)) {h d : Int} (hh : 0 ≤ h ∧ h ≤ 30) (hd : -2 ≤ d ∧ d ≤ 1) {X : Int32} (f0 : c + 1 < nc → X = 0) (f1 : ¬ c + 1 < nc → X = 1) {kx : Int32 → Int32 → Prop} : ∀ (n : Nat) (t : Int) (p : Int × Int), t + n = C c 2 + 1 → C c 1 ≤ t → 0 ≤ p.2 ∧ p.2 ≤ 155 → kx (zI (sk (gk P C np nc c h d) n t p).1) (zI (sk (gk P C np nc c h d) n t p).2) → pX3_seekGoal_61 F kx (n + 1) (zI c) (zI h) (zI d) (zI (C c 2)) X (zI t) (zI p.1) (zI p.2)
  | 0, t, p, ht, ht1, hp, hk => by
    obtain ⟨o1, o2, o3, o4⟩ := hC.2.1 c hc
    exact brT (by ((try simp only [zI_lit, zI_neg, zI_add, zI_sub, zI_mul, zI_n, ne_eq]) <;> (first | rw [zI_lt (by omega) (by omega)] | rw [zI_le (by omega) (by omega)] | rw [zI_eq (by omega) (by omega)]); try omega)) hk
  | n + 1, t, p, ht, ht1, hp, hk => by
    obtain ⟨o1, o2, o3, o4⟩ := hC.2.1 c hc
    have n5 := hC.1
    have e1 : zI t + 1 = zI (t + 1) := by ((try simp only [zI_lit, zI_neg, zI_add, zI_sub, zI_mul, zI_n]) <;> (first | rfl | (refine zI_eqI ?_; omega)))
    have bk := gk_b (P := P) (np := np) hC hc (h := h) (d := d) (t := t) hh hd (by omega)
    have rcq := x_sg61 hC hc hF hh hd f0 f1 (kx := kx) n (t + 1) _ (by omega) (by omega) (by split <;> ((try dsimp only); omega)) hk
    have last : ∀ Y : Int32, Y = zI (gk P C np nc c h d t) → pX3_seekGoal_105 (pX3_seekGoal_61 F kx (n + 1)) (zI c) (zI h) (zI d) (zI (C c 2)) X (zI t) Y (zI p.1) (zI p.2) := fun Y eY => by
      unfold pX3_seekGoal_105
      rw [eY, e1]
      by_cases g : gk P C np nc c h d t < p.2
      · rw [if_pos g] at rcq
        exact brF (by ((try simp only [zI_lit, zI_neg, zI_add, zI_sub, zI_mul, zI_n, ne_eq]) <;> (first | rw [zI_lt (by omega) (by omega)] | rw [zI_le (by omega) (by omega)] | rw [zI_eq (by omega) (by omega)]); try omega)) rcq
      · rw [if_neg g] at rcq
        exact brT (by ((try simp only [zI_lit, zI_neg, zI_add, zI_sub, zI_mul, zI_n, ne_eq]) <;> (first | rw [zI_lt (by omega) (by omega)] | rw [zI_le (by omega) (by omega)] | rw [zI_eq (by omega) (by omega)]); try omega)) rcq
    refine brF (by ((try simp only [zI_lit, zI_neg, zI_add, zI_sub, zI_mul, zI_n, ne_eq]) <;> (first | rw [zI_lt (by omega) (by omega)] | rw [zI_le (by omega) (by omega)] | rw [zI_eq (by omega) (by omega)]); try omega)) ?_
    have ea : mabs (zI t - zI h) = zI (ab (h - t)) := by rw [zI_sub, x_ab (by omega), ab_sym]
    rw [ea]
    by_cases g : c + 1 < nc
    · refine brT (f0 g) (x_stand ?_)
      have b1 := gw_b P C np (c + 1) (h := t) (d := d) (by omega) hd
      have e2 := hF (c + 1) (by omega) g (by omega) t d (by rw [Nat.add_sub_cancel]; omega) hd
      have e3 : ((zI (c : Int) + 1) * 124 + zI (sd t d)).toNatClampNeg = 124 * (c + 1) + pl t d := by unfold sd pl; ((try simp only [zI_lit, zI_neg, zI_add, zI_sub, zI_mul, zI_n]); rw [zI_clamp (by omega)]; omega)
      unfold pX3_fewestFrom
      refine brF (by unfold sd; ((try simp only [zI_lit, zI_neg, zI_add, zI_sub, zI_mul, zI_n, ne_eq]) <;> (first | rw [zI_lt (by omega) (by omega)] | rw [zI_le (by omega) (by omega)] | rw [zI_eq (by omega) (by omega)]); try omega)) (brF (by unfold sd; ((try simp only [zI_lit, zI_neg, zI_add, zI_sub, zI_mul, zI_n, ne_eq]) <;> (first | rw [zI_lt (by omega) (by omega)] | rw [zI_le (by omega) (by omega)] | rw [zI_eq (by omega) (by omega)]); try omega)) ⟨by unfold sd; ((try simp only [zI_lit, zI_neg, zI_add, zI_sub, zI_mul, zI_n]); rw [zI_in (by omega)]; omega), ?_⟩)
      rw [e3, e2]
      exact last _ (by rw [zI_add]; rfl)
    · refine brF (by rw [f1 g]; decide) (last _ ?_)
      unfold gk kf
      rw [show nc - (c + 1) = 0 by omega]
      show _ = zI (ab (h - t) + 0)
      rw [Int.add_zero]
theorem x_seek (hcx : rowsIn 3 nc 0 cc C) (hC : okC nc C) {c : Nat} (hc : c < nc) {F : Nat → Int32} (hF : xInv P C np nc F (c + 1)) {h d : Int} (hh : 0 ≤ h ∧ h ≤ 30) (hd : -2 ≤ d ∧ d ≤ 1) {G M : Int32} {k : Int32 → Int32 → Prop} (hk : k (zI (gg P C np nc c h d).1) (zI (gg P C np nc c h d).2)) : pX3_seekGoal G M F (zI nc) cc (zI c) (zI (sd h d)) k := by
  have n5 := hC.1
  obtain ⟨o1, o2, o3, o4⟩ := hC.2.1 c hc
  obtain ⟨g, rfl, hg⟩ := zI_ex G
  have bk := gk_b (P := P) (np := np) hC hc (h := h) (d := d) (t := C c 1) hh hd (by omega)
  have go : ∀ X : Int32, (c + 1 < nc → X = 0) → (¬ c + 1 < nc → X = 1) → pX3_seekGoal_41 F cc k (zI c) (zI h) (zI d) (zI (C c 2)) X (zI g) M := fun X f0 f1 => by
    unfold pX3_seekGoal_41
    refine x_c hcx n5 hc rfl 1 rfl (by omega) ⟨(C c 2 - C c 1).toNat + 1 + 1, ?_⟩
    refine x_sg61 hC hc hF hh hd f0 f1 ((C c 2 - C c 1).toNat + 1) (C c 1) (g, 155) (by omega) (by omega) (by (try dsimp only); omega) ?_
    have e : sk (gk P C np nc c h d) ((C c 2 - C c 1).toNat + 1) (C c 1) (g, 155) = gg P C np nc c h d := by
      show sk (gk P C np nc c h d) (C c 2 - C c 1).toNat (C c 1 + 1) (if gk P C np nc c h d (C c 1) < 155 then (C c 1, gk P C np nc c h d (C c 1)) else (g, 155)) = _
      rw [if_pos (by omega)]; rfl
    rw [e]
    exact hk
  unfold pX3_seekGoal
  refine x_highOf hh hd (x_didOf hh hd (x_c hcx n5 hc rfl 2 rfl (by omega) ?_))
  by_cases q : c + 1 < nc
  · exact brT (by ((try simp only [zI_lit, zI_neg, zI_add, zI_sub, zI_mul, zI_n, ne_eq]) <;> (first | rw [zI_lt (by omega) (by omega)] | rw [zI_le (by omega) (by omega)] | rw [zI_eq (by omega) (by omega)]); try omega)) (go 0 (fun _ => rfl) (fun z => absurd q z))
  · exact brF (by ((try simp only [zI_lit, zI_neg, zI_add, zI_sub, zI_mul, zI_n, ne_eq]) <;> (first | rw [zI_lt (by omega) (by omega)] | rw [zI_le (by omega) (by omega)] | rw [zI_eq (by omega) (by omega)]); try omega)) (go 1 (fun z => absurd z q) (fun _ => rfl))
theorem x_we65 (hx : rowsIn 6 np 0 cells P) (hP : okP np P) (hcx : rowsIn 3 nc 0 cc C) (hC : okC nc C) {c : Nat} (hc : c < nc) (hc0 : 0 < c) {kx : Int32 → Int32 → Int32 → (Nat → Int32) → Prop} : ∀ (n s : Nat) (G M : Int32) (F : Nat → Int32), (s : Int) + n = C (c - 1) 2 * 4 + 4 → C (c - 1) 1 * 4 ≤ s → xInv P C np nc F (c + 1) → (∀ G' M' F', xInv P C np nc F' (c + 1) → (∀ t d : Int, (s : Int) ≤ t * 4 + d + 2 → C (c - 1) 1 ≤ t ∧ t ≤ C (c - 1) 2 → -2 ≤ d ∧ d ≤ 1 → F' (124 * c + pl t d) = zI (cs P C np nc (nc - c) (gw P C np c t d).1 (gw P C np c t d).2)) → (∀ q, q < 124 * c + s → F' q = F q) → kx (zI c) G' M' F') → pX3_weigh_65 cells (zI nc) cc kx (n + 1) (zI c) (zI (pa P C np c)) (zI (pa P C np (c + 1))) (zI (C (c - 1) 2 * 4 + 4)) (zI s) G M F
  | 0, s, G, M, F, hs, hs1, hF, hk => by
    obtain ⟨o1, o2, o3, o4⟩ := hC.2.1 (c - 1) (by omega)
    exact brT (by ((try simp only [zI_lit, zI_neg, zI_add, zI_sub, zI_mul, zI_n, ne_eq]) <;> (first | rw [zI_lt (by omega) (by omega)] | rw [zI_le (by omega) (by omega)] | rw [zI_eq (by omega) (by omega)]); try omega)) (hk G M F hF (fun t d a b e => absurd a (by omega)) (fun _ _ => rfl))
  | n + 1, s, G, M, F, hs, hs1, hF, hk => by
    obtain ⟨o1, o2, o3, o4⟩ := hC.2.1 (c - 1) (by omega)
    have n5 := hC.1
    have h12 := hP.1
    obtain ⟨t, d, est, ht, hd⟩ : ∃ t d : Int, (s : Int) = t * 4 + d + 2 ∧ (C (c - 1) 1 ≤ t ∧ t ≤ C (c - 1) 2) ∧ -2 ≤ d ∧ d ≤ 1 := ⟨(s : Int) / 4, (s : Int) % 4 - 2, by omega, by omega, by omega⟩
    have es : zI (s : Int) = zI (sd t d) := by unfold sd; rw [est]
    have ew : pa P C np c + (pa P C np (c + 1) - pa P C np c) = pa P C np (c + 1) := by have := pa_mono (P := P) (np := np) hC hc; omega
    have b1 := gw_b P C np c (h := t) (d := d) (by omega) hd
    have bc := cs_b (P := P) (np := np) hC (nc - c) _ _ (by omega) b1.1 b1.2
    have e1 : zI (s : Int) + 1 = zI ((s + 1 : Nat) : Int) := by ((try simp only [zI_lit, zI_neg, zI_add, zI_sub, zI_mul, zI_n]) <;> (first | rfl | (refine zI_eqI ?_; omega)))
    have e3 : (zI (c : Int) * 124 + zI (s : Int)).toNatClampNeg = 124 * c + s := by ((try simp only [zI_lit, zI_neg, zI_add, zI_sub, zI_mul, zI_n]); rw [zI_clamp (by omega)]; omega)
    have eG := cs_gg (P := P) (C := C) (np := np) hc (gw P C np c t d).1 (gw P C np c t d).2
    refine brF (by ((try simp only [zI_lit, zI_neg, zI_add, zI_sub, zI_mul, zI_n, ne_eq]) <;> (first | rw [zI_lt (by omega) (by omega)] | rw [zI_le (by omega) (by omega)] | rw [zI_eq (by omega) (by omega)]); try omega)) ?_
    have hp : ∀ K, K (zI (sd (gw P C np c t d).1 (gw P C np c t d).2)) → pX5_walk cells (zI (pa P C np c)) (zI (pa P C np (c + 1))) (zI (s : Int)) K := fun K hK => by
      rw [es]
      exact x_walk hx hP (pa P C np (c + 1) - pa P C np c) (pa P C np c) (pa P C np (c + 1)) ew.symm t d (by rw [ew]; exact pa_le) (by omega) hd hK
    refine hp _ (x_seek hcx hC hc hF b1.1 b1.2 ?_)
    rw [← eG]
    unfold pX3_keep
    refine brF (by ((try simp only [zI_lit, zI_neg, zI_add, zI_sub, zI_mul, zI_n, ne_eq]) <;> (first | rw [zI_lt (by omega) (by omega)] | rw [zI_le (by omega) (by omega)] | rw [zI_eq (by omega) (by omega)]); try omega)) (brF (by ((try simp only [zI_lit, zI_neg, zI_add, zI_sub, zI_mul, zI_n, ne_eq]) <;> (first | rw [zI_lt (by omega) (by omega)] | rw [zI_le (by omega) (by omega)] | rw [zI_eq (by omega) (by omega)]); try omega)) ⟨by ((try simp only [zI_lit, zI_neg, zI_add, zI_sub, zI_mul, zI_n]); rw [zI_in (by omega)]; omega), ?_⟩)
    rw [e1, e3]
    refine x_we65 hx hP hcx hC hc hc0 n (s + 1) _ _ _ (by omega) (by omega) (fun k a b e t' d' g1 g2 => ?_) (fun G' M' F' f1 f2 f3 => hk G' M' F' f1 (fun t' d' g0 g1 g2 => ?_) (fun q hq => ?_))
    · rw [upd_n _ _ (by
        have := (hC.2.1 (k - 1) (by omega))
        unfold pl; omega)]
      exact hF k a b e t' d' g1 g2
    · by_cases z : t' * 4 + d' + 2 = (s : Int)
      · have zt : t' = t := by omega
        have zd : d' = d := by omega
        rw [zt, zd, f3 _ (by unfold pl; omega), show 124 * c + pl t d = 124 * c + s by unfold pl; omega, upd_s]
      · exact f2 t' d' (by omega) g1 g2
    · rw [f3 q (by omega), upd_n _ _ (by omega)]
theorem x_we10 (hx : rowsIn 6 np 0 cells P) (hP : okP np P) (hcx : rowsIn 3 nc 0 cc C) (hC : okC nc C) {kx : Int32 → Int32 → (Nat → Int32) → Prop} (hk : ∀ G M F, xInv P C np nc F 0 → kx G M F) : ∀ (c : Nat) (G M : Int32) (F : Nat → Int32), c < nc → xInv P C np nc F (c + 1) → pX3_weigh_10 (zI np) cells (zI nc) cc kx (c + 1) (zI c) G M F
  | 0, G, M, F, hc, hF => by
    refine brT (by ((try simp only [zI_lit, zI_neg, zI_add, zI_sub, zI_mul, zI_n, ne_eq]) <;> (first | rw [zI_lt (by omega) (by omega)] | rw [zI_le (by omega) (by omega)] | rw [zI_eq (by omega) (by omega)]); try omega)) (hk G M F (fun k a b e => ?_))
    exact hF k (by omega) b e
  | c + 1, G, M, F, hc, hF => by
    obtain ⟨o1, o2, o3, o4⟩ := hC.2.1 c (by omega)
    have n5 := hC.1
    refine brF (by ((try simp only [zI_lit, zI_neg, zI_add, zI_sub, zI_mul, zI_n, ne_eq]) <;> (first | rw [zI_lt (by omega) (by omega)] | rw [zI_le (by omega) (by omega)] | rw [zI_eq (by omega) (by omega)]); try omega)) (x_pah hx hP hcx hC (c := c + 1) (by omega) rfl (x_pah hx hP hcx hC (c := c + 1 + 1) (by omega) (by ((try simp only [zI_lit, zI_neg, zI_add, zI_sub, zI_mul, zI_n]) <;> (first | rfl | (refine zI_eqI ?_; omega)))) ?_))
    refine x_c hcx n5 (p := c) (by omega) (by ((try simp only [zI_lit, zI_neg, zI_add, zI_sub, zI_mul, zI_n]) <;> (first | rfl | (refine zI_eqI ?_; omega)))) 1 rfl (by omega) (x_c hcx n5 (p := c) (by omega) (by ((try simp only [zI_lit, zI_neg, zI_add, zI_sub, zI_mul, zI_n]) <;> (first | rfl | (refine zI_eqI ?_; omega)))) 2 rfl (by omega) ⟨(C c 2 * 4 + 4 - C c 1 * 4).toNat + 1, ?_⟩)
    have ea : zI (C c 2) * 4 + 4 = zI (C (c + 1 - 1) 2 * 4 + 4) := by rw [Nat.add_sub_cancel]; ((try simp only [zI_lit, zI_neg, zI_add, zI_sub, zI_mul, zI_n]) <;> (first | rfl | (refine zI_eqI ?_; omega)))
    have eb : zI (C c 1) * 4 = zI (((C c 1 * 4).toNat : Nat) : Int) := by ((try simp only [zI_lit, zI_neg, zI_add, zI_sub, zI_mul, zI_n]) <;> (first | rfl | (refine zI_eqI ?_; omega)))
    rw [ea, eb]
    refine x_we65 hx hP hcx hC hc (by omega) (C c 2 * 4 + 4 - C c 1 * 4).toNat (C c 1 * 4).toNat G M F (by rw [Nat.add_sub_cancel]; omega) (by rw [Nat.add_sub_cancel]; omega) hF (fun G' M' F' f1 f2 f3 => ?_)
    rw [show zI ((c + 1 : Nat) : Int) + -1 = zI (c : Int) by ((try simp only [zI_lit, zI_neg, zI_add, zI_sub, zI_mul, zI_n]) <;> (first | rfl | (refine zI_eqI ?_; omega)))]
    refine x_we10 hx hP hcx hC hk c G' M' F' (by omega) (fun k a b e t d g1 g2 => ?_)
    by_cases z : k = c + 1
    · rw [z] at g1 ⊢
      rw [Nat.add_sub_cancel] at g1
      exact f2 t d (by omega) (by rw [Nat.add_sub_cancel]; exact g1) g2
    · exact f1 k (by omega) b e t d g1 g2
theorem x_weigh (hx : rowsIn 6 np 0 cells P) (hP : okP np P) (hcx : rowsIn 3 nc 0 cc C) (hC : okC nc C) {G M : Int32} {F : Nat → Int32} {k : Int32 → Int32 → (Nat → Int32) → Prop} (hk : ∀ G' M' F', xInv P C np nc F' 0 → k G' M' F') : pX3_weigh G M F (zI np) cells (zI nc) cc k := by
  have n5 := hC.1
  unfold pX3_weigh
  by_cases z : nc = 0
  · refine ⟨1, brT (by ((try simp only [zI_lit, zI_neg, zI_add, zI_sub, zI_mul, zI_n, ne_eq]) <;> (first | rw [zI_lt (by omega) (by omega)] | rw [zI_le (by omega) (by omega)] | rw [zI_eq (by omega) (by omega)]); try omega)) (hk G M F (fun k a b => absurd b (by omega)))⟩
  · obtain ⟨c, rfl⟩ : ∃ c, nc = c + 1 := ⟨nc - 1, by omega⟩
    refine ⟨c + 1, ?_⟩
    rw [show zI ((c + 1 : Nat) : Int) - 1 = zI (c : Int) by ((try simp only [zI_lit, zI_neg, zI_add, zI_sub, zI_mul, zI_n]) <;> (first | rfl | (refine zI_eqI ?_; omega)))]
    exact x_we10 hx hP hcx hC hk c G M F (by omega) (fun k a b => absurd b (by omega))
end HX
