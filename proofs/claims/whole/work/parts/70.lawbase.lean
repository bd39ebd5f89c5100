/-! THE CLAIM OUT OF ONE WALK OF THE LAW'S BODY. Your part is whole_start (and what it stands on); all else here is the same for every law, but numbers. -/
def R_law : String := "PassStonesLaw"
def lw_P (b : Addr) (xs : List Int32) (args : Array Value) (s : State) : Prop := args = #[.ref b] ∧ s.IntsAt b xs ∧ xs.length ≤ 2560 ∧ (Jvm.Cond.and given_1 narrow_1).before args s = true
def lw_Q (_ : Array Value) (s : State) (o : Outcome) (t : State) : Prop := o = .returned (some (.int 1)) ∧ Framed s o t [] room_1.cells room_1.slots
def lw_Z (below : List Frame) (a : Array Value) (s : State) : State → Prop := fun t => ∃ o, t.status = .running ∧ Ended t below o ∧ lw_Q a s o t
/-- the law's own end, with 1 on the stack, nothing written that was there before, its room as the claim has it -/
theorem lw_ret {p : Program} {l : Launch} {e : Env} {s : State} {m : MethodId} {below : List Frame} {meth : Method} {c : Code} {b : Nat} (hx : p.tables.exec = Jvm.exec) (hb : c.code = code) (hr : meth.sig.returnType = ret) (hlocks : meth.locks = false) {pc : Nat} {H : Heap} {ls : Array Slot} (hdg : decode code pc = .ok (.ireturn, 1)) : W p l e room_1 s m #[Value.ref b] below meth c H [] room_1.cells room_1.slots (lw_Z below #[Value.ref b] s) (F0 m pc ls [.int 1]) := by
  intro T hT X
  obtain ⟨fs, hret, hrun, hended, hW, hframe⟩ := X.leave (v := some (.int 1)) (hlocks := hlocks) (fun h => by rw [hr] at h; cases h)
  have hmeth' : T.vm.method? m = some meth := X.method'
  refine ⟨T.setFrames fs, ?_, .returned (some (.int 1)), hrun, hended, rfl, ⟨_, rfl⟩, hW, hframe⟩
  jvm_step X.here [X.here.top, hx, hb, hdg, hmeth', hr, ret, narrow_b1]
  (try refine ⟨rfl, ?_⟩); (try refine ⟨rfl, ?_⟩)
  first | (intro acts; rw [hret _ acts rfl rfl rfl]) | rw [hret _ _ rfl rfl rfl]
  exact Steps.refl _
/-- what holds at the law's entry: the machine, the code, the tables' words (any of lw_tbl by 'hts w (by decide +kernel)'), the script of L ints xs at the cell b, what the Statement gives of the start (any of its parts by flat_of_before) -/
def lw_At (p : Program) (s : State) (m : MethodId) (meth : Method) (c : Code) (b L : Nat) (xs : Nat → Int32) : Prop :=
  p.tables.exec = Jvm.exec ∧ c.code = code ∧ meth.sig.returnType = ret ∧ c.maxLocals = 4 ∧ s.vm.findClass R_law = some m.cls ∧ (∀ w ∈ lw_tbl, w.before #[Value.ref b] s = true) ∧ va_X b L xs s s.heap ∧ b < s.heap.size ∧ meth.locks = false ∧ (Jvm.Cond.and given_1 narrow_1).before #[Value.ref b] s = true
abbrev AD : Type := Nat × Nat × Nat × Nat × Nat × Nat × Nat × Nat × Nat
/-- the cells of a kept image -/
def imW (cI : ClassId) (rk : Nat) (a : AD) (o : Option RD) : va_W := match o with
  | none => []
  | some v => [(a.1, .inr (5, [.ref rk, .ref a.2.1, .ref a.2.2.2.1, .ref a.2.2.2.2.2.1, .ref a.2.2.2.2.2.2.2.1, .int v.1, .int v.2.1])), (a.2.1, .inr (7, [.int (12 : Int32), .int (6 : Int32), .ref a.2.2.1, .int v.2.2.1])), (a.2.2.1, .inl (cI, 72, .inl v.2.2.2.1)), (a.2.2.2.1, .inr (7, [.int (4 : Int32), .int (2 : Int32), .ref a.2.2.2.2.1, .int v.2.2.2.2.1])), (a.2.2.2.2.1, .inl (cI, 8, .inl v.2.2.2.2.2.1)), (a.2.2.2.2.2.1, .inr (7, [.int (5 : Int32), .int (3 : Int32), .ref a.2.2.2.2.2.2.1, .int v.2.2.2.2.2.2.1])), (a.2.2.2.2.2.2.1, .inl (cI, 15, .inl v.2.2.2.2.2.2.2.1)), (a.2.2.2.2.2.2.2.1, .inr (7, [.int (6 : Int32), .int (2 : Int32), .ref a.2.2.2.2.2.2.2.2, .int v.2.2.2.2.2.2.2.2.1])), (a.2.2.2.2.2.2.2.2, .inl (cI, 12, .inl v.2.2.2.2.2.2.2.2.2))]
def imA (a : AD) (o : Option RD) : Option Nat := match o with
  | none => none
  | some _ => some a.1
def imf (a0 a1 : AD) (o0 o1 : Option RD) : Nat → Option Nat := fun k => if k = 0 then imA a0 o0 else if k = 1 then imA a1 o1 else none
theorem imf_0 (a0 a1 : AD) (o0 o1 : Option RD) : imf a0 a1 o0 o1 (0 : Int32).toNatClampNeg = imA a0 o0 := by
  rw [show (0 : Int32).toNatClampNeg = 0 by decide]; rfl
theorem imf_1 (a0 a1 : AD) (o0 o1 : Option RD) : imf a0 a1 o0 o1 (1 : Int32).toNatClampNeg = imA a1 o1 := by
  rw [show (1 : Int32).toNatClampNeg = 1 by decide]; rfl
theorem imf_up0 (a0 a1 b0 : AD) (o0 o1 : Option RD) (v : RD) : va_up (imf a0 a1 o0 o1) (0 : Int32).toNatClampNeg (some b0.1) = imf b0 a1 (some v) o1 := by
  rw [show (0 : Int32).toNatClampNeg = 0 by decide]
  funext k
  simp only [va_up, imf, imA]
  by_cases h : k = 0
  · simp [h]
  · simp [h]
theorem imf_up1 (a0 a1 b1 : AD) (o0 o1 : Option RD) (v : RD) : va_up (imf a0 a1 o0 o1) (1 : Int32).toNatClampNeg (some b1.1) = imf a0 b1 o0 (some v) := by
  rw [show (1 : Int32).toNatClampNeg = 1 by decide]
  funext k
  simp only [va_up, imf, imA]
  by_cases h : k = 1
  · simp [h]
  · simp [h]
/-- behind a call, with cells beside that nobody names -/
theorem jnR {A0 : Nat → Prop} {D : va_G} {cl : List vw_C} {base R wc wr w1 base' : va_W} {H H1 : Heap} (hP : va_P D cl (base ++ R) H) (hD : va_D A0 (base ++ R)) (isC isR : List Nat) (hC : isC.map (fun i => base[i]?) = wc.map some) (hR : isR.map (fun i => base[i]?) = wr.map some) (hn : va_nd isR = true) (hdis : ∀ i ∈ isR, i ∉ isC)
    (hk : ∀ q : Nat, q < H.size → ¬ va_A wc H.size q → H1[q]? = H[q]?) (hF : ∀ q, va_A wc H.size q → A0 q) (hP1 : va_P D cl w1 H1) (hD1 : va_D (va_A wc H.size) w1) (perm : List Nat) (hnd : va_nd perm = true) (hp : perm.map (fun i => (wr ++ w1)[i]?) = base'.map some) : va_P D cl (base' ++ R) H1 ∧ va_D A0 (base' ++ R) := by
  have hPb : va_P D cl base H := fun k q h => hP k q (by rw [List.getElem?_append_left (List.getElem?_eq_some_iff.mp h).1]; exact h)
  have hDb : va_D A0 base := ⟨fun i j x y hx hy e => hD.1 i j x y (by rw [List.getElem?_append_left (List.getElem?_eq_some_iff.mp hx).1]; exact hx) (by rw [List.getElem?_append_left (List.getElem?_eq_some_iff.mp hy).1]; exact hy) e, fun k q h => hD.2 k q (by rw [List.getElem?_append_left (List.getElem?_eq_some_iff.mp h).1]; exact h)⟩
  have hRr : ∀ (k : Nat) (q : Nat × va_E), R[k]? = some q → (base ++ R)[base.length + k]? = some q := fun k q h => by rw [List.getElem?_append_right (by omega), Nat.add_sub_cancel_left]; exact h
  obtain ⟨h1, h2⟩ := jn hPb hDb isC isR hC hR hn hdis hk hF hP1 hD1 perm hnd hp
  have apC : ∀ (k : Nat) (q : Nat × va_E), R[k]? = some q → q.1 < H.size ∧ ¬ va_A wc H.size q.1 := by
    intro k q hq
    have hl := (hP _ q (hRr k q hq)).lt
    refine ⟨hl, fun h => ?_⟩
    rcases h with ⟨k2, e, h⟩ | h
    · have h9 : (isC.map (fun i => base[i]?))[k2]? = some (some (q.1, e)) := by rw [hC, List.getElem?_map, h]; rfl
      rw [List.getElem?_map] at h9
      cases hi : isC[k2]? with
      | none => rw [hi] at h9; cases h9
      | some i =>
        rw [hi] at h9
        have h8 : base[i]? = some (q.1, e) := Option.some.inj h9
        have hil := (List.getElem?_eq_some_iff.mp h8).1
        have := hD.1 i (base.length + k) (q.1, e) q (by rw [List.getElem?_append_left hil]; exact h8) (hRr k q hq) rfl
        omega
    · omega
  have hPR : va_P D cl R H1 := fun k q hq => (hP _ q (hRr k q hq)).kept (hk q.1 (apC k q hq).1 (apC k q hq).2)
  have hDR : va_D A0 R := ⟨fun i j x y hx hy e => by
    have := hD.1 _ _ x y (hRr i x hx) (hRr j y hy) e
    omega, fun k q h => hD.2 _ q (hRr k q h)⟩
  refine ⟨h1.app hPR, h2.app hDR (fun i j x y hx hy e => ?_)⟩
  have hx2 : ∃ z : Nat, (wr ++ w1)[z]? = some x := by
    have h9 : (perm.map (fun i => (wr ++ w1)[i]?))[i]? = some (some x) := by rw [hp, List.getElem?_map, hx]; rfl
    rw [List.getElem?_map] at h9
    cases hi : perm[i]? with
    | none => rw [hi] at h9; cases h9
    | some z => rw [hi] at h9; exact ⟨z, Option.some.inj h9⟩
  obtain ⟨z, hz⟩ := hx2
  by_cases hzl : z < wr.length
  · rw [List.getElem?_append_left hzl] at hz
    have h9 : (isR.map (fun i => base[i]?))[z]? = some (some x) := by rw [hR, List.getElem?_map, hz]; rfl
    rw [List.getElem?_map] at h9
    cases hi : isR[z]? with
    | none => rw [hi] at h9; cases h9
    | some i2 =>
      rw [hi] at h9
      have h8 : base[i2]? = some x := Option.some.inj h9
      have hil := (List.getElem?_eq_some_iff.mp h8).1
      have := hD.1 i2 (base.length + j) x y (by rw [List.getElem?_append_left hil]; exact h8) (hRr j y hy) e
      omega
  · rw [List.getElem?_append_right (by omega)] at hz
    exact (apC j y hy).2 (by rw [← e]; exact hD1.2 _ x hz)
theorem swapP {D : va_G} {cl : List vw_C} {b x y : va_W} {H : Heap} (h : va_P D cl (b ++ (x ++ y)) H) : va_P D cl (b ++ (y ++ x)) H := by
  intro k q hq
  have hm : q ∈ b ++ (x ++ y) := by
    have := List.mem_of_getElem? hq
    simp only [List.mem_append] at this ⊢
    rcases this with h1 | h1 | h1
    · exact Or.inl h1
    · exact Or.inr (Or.inr h1)
    · exact Or.inr (Or.inl h1)
  obtain ⟨i, hi⟩ := List.getElem?_of_mem hm
  exact h i q hi
theorem va_D.appL {A : Nat → Prop} {b r : va_W} (h : va_D A (b ++ r)) : va_D A b := ⟨fun i j x y hx hy e => h.1 i j x y (by rw [List.getElem?_append_left (List.getElem?_eq_some_iff.mp hx).1]; exact hx) (by rw [List.getElem?_append_left (List.getElem?_eq_some_iff.mp hy).1]; exact hy) e, fun k q hk => h.2 k q (by rw [List.getElem?_append_left (List.getElem?_eq_some_iff.mp hk).1]; exact hk)⟩
theorem va_D.appR {A : Nat → Prop} {b r : va_W} (h : va_D A (b ++ r)) : va_D A r := by
  have hr : ∀ (k : Nat) (q : Nat × va_E), r[k]? = some q → (b ++ r)[b.length + k]? = some q := fun k q h => by rw [List.getElem?_append_right (by omega), Nat.add_sub_cancel_left]; exact h
  exact ⟨fun i j x y hx hy e => by
    have := h.1 _ _ x y (hr i x hx) (hr j y hy) e
    omega, fun k q hk => h.2 _ q (hr k q hk)⟩
theorem va_D.apartLR {A : Nat → Prop} {b r : va_W} (h : va_D A (b ++ r)) (i j : Nat) (x y : Nat × va_E) (hx : b[i]? = some x) (hy : r[j]? = some y) : x.1 ≠ y.1 := by
  intro e
  have hil := (List.getElem?_eq_some_iff.mp hx).1
  have := h.1 i (b.length + j) x y (by rw [List.getElem?_append_left hil]; exact hx) (by rw [List.getElem?_append_right (by omega), Nat.add_sub_cancel_left]; exact hy) e
  omega
theorem swapD {A : Nat → Prop} {b x y : va_W} (h : va_D A (b ++ (x ++ y))) : va_D A (b ++ (y ++ x)) := by
  have hr := h.appR
  refine h.appL.app (hr.appR.app hr.appL (fun i j p q hp hq e => hr.apartLR j i q p hq hp e.symm)) (fun i j p q hp hq e => ?_)
  have hm : q ∈ x ++ y := by
    have := List.mem_of_getElem? hq
    simp only [List.mem_append] at this ⊢
    exact this.symm
  obtain ⟨k, hk⟩ := List.getElem?_of_mem hm
  exact h.apartLR i k p q hp hk e
abbrev LawPt (p : Program) (l : Launch) (e : Env) (s : State) (m : MethodId) (b : Nat) (below : List Frame) (meth : Method) (c : Code) (dC : Nat → ClassId) (dI : Nat → Nat → Nat) (cI cL cB cZ cT cR : ClassId) (h0 h1 h2 h3 h4 h5 h6 h7 h8 h9 h10 h11 h12 h13 h14 h15 h16 h17 h18 h19 h20 h21 h22 h23 h24 h25 h26 h27 h28 h29 h30 h31 h32 h33 h34 h35 h36 h37 h38 h39 h40 h41 h42 h43 h44 h45 h46 h47 h48 h49 h50 h51 h52 : Nat) (x3 : Int32) (cN sN pc : Nat) (KB : KBT) : Prop := ∀ (s_above : Int64) (s_below : Int64) (s_badCalls : Int32) (s_noCalls : Int32) (s_fullCalls : Int32) (s_road_high : Int32) (s_road_low : Int32) (s_road_passers_size : Int32) (s_road_passers_cells : Nat → Int32) (s_road_beasts_size : Int32) (s_road_beasts_cells : Nat → Int32) (s_road_checks_size : Int32) (s_road_checks_cells : Nat → Int32) (s_road_looks_size : Int32) (s_road_looks_cells : Nat → Int32) (s_trial_high : Int32) (s_trial_low : Int32) (s_trial_passers_size : Int32) (s_trial_passers_cells : Nat → Int32) (s_trial_beasts_size : Int32) (s_trial_beasts_cells : Nat → Int32) (s_trial_checks_size : Int32) (s_trial_checks_cells : Nat → Int32) (s_trial_looks_size : Int32) (s_trial_looks_cells : Nat → Int32) (s_text_length : Int32) (s_text_place : Int32) (s_text_next : Int32) (s_text_bytes : Nat → Int32) (s_text_items_size : Int32) (s_text_items_cells : Nat → Int32) (s_hiring_men : Int32) (s_hiring_goal : Int32) (s_hiring_goalMen : Int32) (s_hiring_fewest : Nat → Int32) (s_hiring_gains : Nat → Int32) (s_spread_now : Nat → Int64) (s_spread_later : Nat → Int64) (s_choices : Nat → Int32) (s_ends : Nat → Int32) (s_laterEnds : Nat → Int32) (s1_above : Int64) (s1_below : Int64) (s1_typed : Int32) (s1_at : Int32) (s1_start : Int32) (s1_sort : Int32) (s1_value : Int32) (s1_fault : Int32) (s1_itemsMany : Int32) (s1_goneHeight : Int32) (s1_goneDid : Int32) (s1_now : Nat → Int32) (s1_isKept : Nat → Int32) (s1_refused : Nat → Int32) (s1_text : Nat → Int32) (s1_items : Nat → Int32) (s1_did : Nat → Int32) (s1_fewest : Nat → Int32) (s1_chosen : Nat → Int32) (s1_ends : Nat → Int32) (s1_rows : Nat → Int32) (s1_ways : Nat → Int64) (s1_then : Nat → Int64) (o0 : Option RD) (o1 : Option RD) (a0 a1 : AD) (H : Heap) (locs : List Loc) (ls : Array Slot), va_P (dC, dI) vwCl ([(h0, .inr (11, [.ref h2, .ref h1, .ref h17, .ref h26, .ref h27, .ref h31, .ref h34, .ref h37, .ref h38, .ref h39, .long s_above, .long s_below, .int s_badCalls, .int s_noCalls, .int s_fullCalls])), (h1, .inr (5, [.ref h2, .ref h9, .ref h11, .ref h13, .ref h15, .int s_road_high, .int s_road_low])), (h2, .inl (cT, 6, .inr (.inr (.inr (.inr (kd h3 h4 h5 h6 h7 h8)))))), (h3, .inr (9, [])), (h4, .inr (4, [])), (h5, .inr (10, [])), (h6, .inr (2, [])), (h7, .inr (1, [])), (h8, .inr (0, [])), (h9, .inr (7, [.int (12 : Int32), .int (6 : Int32), .ref h10, .int s_road_passers_size])), (h10, .inl (cI, 72, .inl s_road_passers_cells)), (h11, .inr (7, [.int (4 : Int32), .int (2 : Int32), .ref h12, .int s_road_beasts_size])), (h12, .inl (cI, 8, .inl s_road_beasts_cells)), (h13, .inr (7, [.int (5 : Int32), .int (3 : Int32), .ref h14, .int s_road_checks_size])), (h14, .inl (cI, 15, .inl s_road_checks_cells)), (h15, .inr (7, [.int (6 : Int32), .int (2 : Int32), .ref h16, .int s_road_looks_size])), (h16, .inl (cI, 12, .inl s_road_looks_cells)), (h17, .inr (5, [.ref h2, .ref h18, .ref h20, .ref h22, .ref h24, .int s_trial_high, .int s_trial_low])), (h18, .inr (7, [.int (12 : Int32), .int (6 : Int32), .ref h19, .int s_trial_passers_size])), (h19, .inl (cI, 72, .inl s_trial_passers_cells)), (h20, .inr (7, [.int (4 : Int32), .int (2 : Int32), .ref h21, .int s_trial_beasts_size])), (h21, .inl (cI, 8, .inl s_trial_beasts_cells)), (h22, .inr (7, [.int (5 : Int32), .int (3 : Int32), .ref h23, .int s_trial_checks_size])), (h23, .inl (cI, 15, .inl s_trial_checks_cells)), (h24, .inr (7, [.int (6 : Int32), .int (2 : Int32), .ref h25, .int s_trial_looks_size])), (h25, .inl (cI, 12, .inl s_trial_looks_cells)), (h26, .inl (cR, 2, .inr (.inr (.inr (.inr (imf a0 a1 o0 o1)))))), (h27, .inr (6, [.ref h28, .ref h29, .int s_text_length, .int s_text_place, .int s_text_next])), (h28, .inl (cB, 200, .inl s_text_bytes)), (h29, .inr (7, [.int (33 : Int32), .int (5 : Int32), .ref h30, .int s_text_items_size])), (h30, .inl (cI, 165, .inl s_text_items_cells)), (h31, .inr (3, [.ref h32, .ref h33, .int s_hiring_men, .int s_hiring_goal, .int s_hiring_goalMen])), (h32, .inl (cI, 620, .inl s_hiring_fewest)), (h33, .inl (cI, 5, .inl s_hiring_gains)), (h34, .inr (8, [.ref h35, .ref h36])), (h35, .inl (cL, 31, .inr (.inl s_spread_now))), (h36, .inl (cL, 31, .inr (.inl s_spread_later))), (h37, .inl (cI, 372, .inl s_choices)), (h38, .inl (cI, 31, .inl s_ends)), (h39, .inl (cI, 31, .inl s_laterEnds)), (h40, .inr (12, [.ref h41, .ref h42, .ref h43, .long s1_above, .long s1_below, .ref h44, .int s1_typed, .int s1_at, .int s1_start, .int s1_sort, .int s1_value, .int s1_fault, .ref h45, .int s1_itemsMany, .ref h46, .ref h47, .int s1_goneHeight, .int s1_goneDid, .ref h48, .ref h49, .ref h50, .ref h51, .ref h52])), (h41, .inl (cI, 452, .inl s1_now)), (h42, .inl (cZ, 2, .inl s1_isKept)), (h43, .inl (cI, 3, .inl s1_refused)), (h44, .inl (cB, 200, .inl s1_text)), (h45, .inl (cI, 200, .inl s1_items)), (h46, .inl (cI, 12, .inl s1_did)), (h47, .inl (cI, 744, .inl s1_fewest)), (h48, .inl (cI, 372, .inl s1_chosen)), (h49, .inl (cI, 403, .inl s1_ends)), (h50, .inl (cI, 403, .inl s1_rows)), (h51, .inl (cL, 31, .inr (.inl s1_ways))), (h52, .inl (cL, 31, .inr (.inl s1_then)))] ++ (imW cI h2 a0 o0 ++ imW cI h2 a1 o1)) H → va_D (fun q : Nat => s.heap.size ≤ q) ([(h0, .inr (11, [.ref h2, .ref h1, .ref h17, .ref h26, .ref h27, .ref h31, .ref h34, .ref h37, .ref h38, .ref h39, .long s_above, .long s_below, .int s_badCalls, .int s_noCalls, .int s_fullCalls])), (h1, .inr (5, [.ref h2, .ref h9, .ref h11, .ref h13, .ref h15, .int s_road_high, .int s_road_low])), (h2, .inl (cT, 6, .inr (.inr (.inr (.inr (kd h3 h4 h5 h6 h7 h8)))))), (h3, .inr (9, [])), (h4, .inr (4, [])), (h5, .inr (10, [])), (h6, .inr (2, [])), (h7, .inr (1, [])), (h8, .inr (0, [])), (h9, .inr (7, [.int (12 : Int32), .int (6 : Int32), .ref h10, .int s_road_passers_size])), (h10, .inl (cI, 72, .inl s_road_passers_cells)), (h11, .inr (7, [.int (4 : Int32), .int (2 : Int32), .ref h12, .int s_road_beasts_size])), (h12, .inl (cI, 8, .inl s_road_beasts_cells)), (h13, .inr (7, [.int (5 : Int32), .int (3 : Int32), .ref h14, .int s_road_checks_size])), (h14, .inl (cI, 15, .inl s_road_checks_cells)), (h15, .inr (7, [.int (6 : Int32), .int (2 : Int32), .ref h16, .int s_road_looks_size])), (h16, .inl (cI, 12, .inl s_road_looks_cells)), (h17, .inr (5, [.ref h2, .ref h18, .ref h20, .ref h22, .ref h24, .int s_trial_high, .int s_trial_low])), (h18, .inr (7, [.int (12 : Int32), .int (6 : Int32), .ref h19, .int s_trial_passers_size])), (h19, .inl (cI, 72, .inl s_trial_passers_cells)), (h20, .inr (7, [.int (4 : Int32), .int (2 : Int32), .ref h21, .int s_trial_beasts_size])), (h21, .inl (cI, 8, .inl s_trial_beasts_cells)), (h22, .inr (7, [.int (5 : Int32), .int (3 : Int32), .ref h23, .int s_trial_checks_size])), (h23, .inl (cI, 15, .inl s_trial_checks_cells)), (h24, .inr (7, [.int (6 : Int32), .int (2 : Int32), .ref h25, .int s_trial_looks_size])), (h25, .inl (cI, 12, .inl s_trial_looks_cells)), (h26, .inl (cR, 2, .inr (.inr (.inr (.inr (imf a0 a1 o0 o1)))))), (h27, .inr (6, [.ref h28, .ref h29, .int s_text_length, .int s_text_place, .int s_text_next])), (h28, .inl (cB, 200, .inl s_text_bytes)), (h29, .inr (7, [.int (33 : Int32), .int (5 : Int32), .ref h30, .int s_text_items_size])), (h30, .inl (cI, 165, .inl s_text_items_cells)), (h31, .inr (3, [.ref h32, .ref h33, .int s_hiring_men, .int s_hiring_goal, .int s_hiring_goalMen])), (h32, .inl (cI, 620, .inl s_hiring_fewest)), (h33, .inl (cI, 5, .inl s_hiring_gains)), (h34, .inr (8, [.ref h35, .ref h36])), (h35, .inl (cL, 31, .inr (.inl s_spread_now))), (h36, .inl (cL, 31, .inr (.inl s_spread_later))), (h37, .inl (cI, 372, .inl s_choices)), (h38, .inl (cI, 31, .inl s_ends)), (h39, .inl (cI, 31, .inl s_laterEnds)), (h40, .inr (12, [.ref h41, .ref h42, .ref h43, .long s1_above, .long s1_below, .ref h44, .int s1_typed, .int s1_at, .int s1_start, .int s1_sort, .int s1_value, .int s1_fault, .ref h45, .int s1_itemsMany, .ref h46, .ref h47, .int s1_goneHeight, .int s1_goneDid, .ref h48, .ref h49, .ref h50, .ref h51, .ref h52])), (h41, .inl (cI, 452, .inl s1_now)), (h42, .inl (cZ, 2, .inl s1_isKept)), (h43, .inl (cI, 3, .inl s1_refused)), (h44, .inl (cB, 200, .inl s1_text)), (h45, .inl (cI, 200, .inl s1_items)), (h46, .inl (cI, 12, .inl s1_did)), (h47, .inl (cI, 744, .inl s1_fewest)), (h48, .inl (cI, 372, .inl s1_chosen)), (h49, .inl (cI, 403, .inl s1_ends)), (h50, .inl (cI, 403, .inl s1_rows)), (h51, .inl (cL, 31, .inr (.inl s1_ways))), (h52, .inl (cL, 31, .inr (.inl s1_then)))] ++ (imW cI h2 a0 o0 ++ imW cI h2 a1 o1)) → va_S (fun q : Nat => s.heap.size ≤ q) s.heap H locs → lv_has ls 4 [(0, .ref b), (1, .ref h0), (2, .ref h40), (3, .int x3)] → KB s_above s_below s_badCalls s_noCalls s_fullCalls s_road_high s_road_low s_road_passers_size s_road_passers_cells s_road_beasts_size s_road_beasts_cells s_road_checks_size s_road_checks_cells s_road_looks_size s_road_looks_cells s_trial_high s_trial_low s_trial_passers_size s_trial_passers_cells s_trial_beasts_size s_trial_beasts_cells s_trial_checks_size s_trial_checks_cells s_trial_looks_size s_trial_looks_cells s_text_length s_text_place s_text_next s_text_bytes s_text_items_size s_text_items_cells s_hiring_men s_hiring_goal s_hiring_goalMen s_hiring_fewest s_hiring_gains s_spread_now s_spread_later s_choices s_ends s_laterEnds s1_above s1_below s1_typed s1_at s1_start s1_sort s1_value s1_fault s1_itemsMany s1_goneHeight s1_goneDid s1_now s1_isKept s1_refused s1_text s1_items s1_did s1_fewest s1_chosen s1_ends s1_rows s1_ways s1_then o0 o1 → W p l e room_1 s m #[Value.ref b] below meth c H locs cN sN (lw_Z below #[Value.ref b] s) (F0 m pc ls [])
set_option maxRecDepth 20000 in
theorem kX11_wall : yX11_wall.cls ≠ "java/lang/invoke/MethodHandle" ∧ yX11_wall.cls ≠ "java/lang/invoke/VarHandle" ∧ (parseMethodDescriptor yX11_wall.desc).map (fun d => d.parameters.length) = some 1 := by decide +kernel
set_option maxRecDepth 20000 in
theorem kX12_wall : yX12_wall.cls ≠ "java/lang/invoke/MethodHandle" ∧ yX12_wall.cls ≠ "java/lang/invoke/VarHandle" ∧ (parseMethodDescriptor yX12_wall.desc).map (fun d => d.parameters.length) = some 1 := by decide +kernel
set_option maxRecDepth 20000 in
theorem kX11_coach : yX11_coach.cls ≠ "java/lang/invoke/MethodHandle" ∧ yX11_coach.cls ≠ "java/lang/invoke/VarHandle" ∧ (parseMethodDescriptor yX11_coach.desc).map (fun d => d.parameters.length) = some 1 := by decide +kernel
set_option maxRecDepth 20000 in
theorem kX12_coach : yX12_coach.cls ≠ "java/lang/invoke/MethodHandle" ∧ yX12_coach.cls ≠ "java/lang/invoke/VarHandle" ∧ (parseMethodDescriptor yX12_coach.desc).map (fun d => d.parameters.length) = some 1 := by decide +kernel
set_option maxRecDepth 20000 in
theorem kX11_passer : yX11_passer.cls ≠ "java/lang/invoke/MethodHandle" ∧ yX11_passer.cls ≠ "java/lang/invoke/VarHandle" ∧ (parseMethodDescriptor yX11_passer.desc).map (fun d => d.parameters.length) = some 4 := by decide +kernel
set_option maxRecDepth 20000 in
theorem kX12_passer : yX12_passer.cls ≠ "java/lang/invoke/MethodHandle" ∧ yX12_passer.cls ≠ "java/lang/invoke/VarHandle" ∧ (parseMethodDescriptor yX12_passer.desc).map (fun d => d.parameters.length) = some 4 := by decide +kernel
set_option maxRecDepth 20000 in
theorem kX11_undo : yX11_undo.cls ≠ "java/lang/invoke/MethodHandle" ∧ yX11_undo.cls ≠ "java/lang/invoke/VarHandle" ∧ (parseMethodDescriptor yX11_undo.desc).map (fun d => d.parameters.length) = some 0 := by decide +kernel
set_option maxRecDepth 20000 in
theorem kX12_undo : yX12_undo.cls ≠ "java/lang/invoke/MethodHandle" ∧ yX12_undo.cls ≠ "java/lang/invoke/VarHandle" ∧ (parseMethodDescriptor yX12_undo.desc).map (fun d => d.parameters.length) = some 0 := by decide +kernel
set_option maxRecDepth 20000 in
theorem kX11_beast : yX11_beast.cls ≠ "java/lang/invoke/MethodHandle" ∧ yX11_beast.cls ≠ "java/lang/invoke/VarHandle" ∧ (parseMethodDescriptor yX11_beast.desc).map (fun d => d.parameters.length) = some 2 := by decide +kernel
set_option maxRecDepth 20000 in
theorem kX12_beast : yX12_beast.cls ≠ "java/lang/invoke/MethodHandle" ∧ yX12_beast.cls ≠ "java/lang/invoke/VarHandle" ∧ (parseMethodDescriptor yX12_beast.desc).map (fun d => d.parameters.length) = some 2 := by decide +kernel
set_option maxRecDepth 20000 in
theorem kX11_odds : yX11_odds.cls ≠ "java/lang/invoke/MethodHandle" ∧ yX11_odds.cls ≠ "java/lang/invoke/VarHandle" ∧ (parseMethodDescriptor yX11_odds.desc).map (fun d => d.parameters.length) = some 3 := by decide +kernel
set_option maxRecDepth 20000 in
theorem kX12_odds : yX12_odds.cls ≠ "java/lang/invoke/MethodHandle" ∧ yX12_odds.cls ≠ "java/lang/invoke/VarHandle" ∧ (parseMethodDescriptor yX12_odds.desc).map (fun d => d.parameters.length) = some 3 := by decide +kernel
set_option maxRecDepth 20000 in
theorem mL_law_k42 : Cond.constantLong RL 42 (4294967295 : Int64) ∈ wsL_law := by decide +kernel
set_option maxRecDepth 20000 in
theorem kX11_type : yX11_type.cls ≠ "java/lang/invoke/MethodHandle" ∧ yX11_type.cls ≠ "java/lang/invoke/VarHandle" ∧ (parseMethodDescriptor yX11_type.desc).map (fun d => d.parameters.length) = some 2 := by decide +kernel
set_option maxRecDepth 20000 in
theorem kX12_type : yX12_type.cls ≠ "java/lang/invoke/MethodHandle" ∧ yX12_type.cls ≠ "java/lang/invoke/VarHandle" ∧ (parseMethodDescriptor yX12_type.desc).map (fun d => d.parameters.length) = some 2 := by decide +kernel
set_option maxRecDepth 20000 in
theorem kX11_clear : yX11_clear.cls ≠ "java/lang/invoke/MethodHandle" ∧ yX11_clear.cls ≠ "java/lang/invoke/VarHandle" ∧ (parseMethodDescriptor yX11_clear.desc).map (fun d => d.parameters.length) = some 0 := by decide +kernel
set_option maxRecDepth 20000 in
theorem kX12_clear : yX12_clear.cls ≠ "java/lang/invoke/MethodHandle" ∧ yX12_clear.cls ≠ "java/lang/invoke/VarHandle" ∧ (parseMethodDescriptor yX12_clear.desc).map (fun d => d.parameters.length) = some 0 := by decide +kernel
set_option maxRecDepth 20000 in
theorem kX11_read : yX11_read.cls ≠ "java/lang/invoke/MethodHandle" ∧ yX11_read.cls ≠ "java/lang/invoke/VarHandle" ∧ (parseMethodDescriptor yX11_read.desc).map (fun d => d.parameters.length) = some 0 := by decide +kernel
set_option maxRecDepth 20000 in
theorem kX12_read : yX12_read.cls ≠ "java/lang/invoke/MethodHandle" ∧ yX12_read.cls ≠ "java/lang/invoke/VarHandle" ∧ (parseMethodDescriptor yX12_read.desc).map (fun d => d.parameters.length) = some 0 := by decide +kernel
set_option maxRecDepth 20000 in
theorem kX11_height : yX11_height.cls ≠ "java/lang/invoke/MethodHandle" ∧ yX11_height.cls ≠ "java/lang/invoke/VarHandle" ∧ (parseMethodDescriptor yX11_height.desc).map (fun d => d.parameters.length) = some 1 := by decide +kernel
set_option maxRecDepth 20000 in
theorem kX12_height : yX12_height.cls ≠ "java/lang/invoke/MethodHandle" ∧ yX12_height.cls ≠ "java/lang/invoke/VarHandle" ∧ (parseMethodDescriptor yX12_height.desc).map (fun d => d.parameters.length) = some 1 := by decide +kernel
set_option maxRecDepth 20000 in
theorem kX11_does : yX11_does.cls ≠ "java/lang/invoke/MethodHandle" ∧ yX11_does.cls ≠ "java/lang/invoke/VarHandle" ∧ (parseMethodDescriptor yX11_does.desc).map (fun d => d.parameters.length) = some 1 := by decide +kernel
set_option maxRecDepth 20000 in
theorem kX12_does : yX12_does.cls ≠ "java/lang/invoke/MethodHandle" ∧ yX12_does.cls ≠ "java/lang/invoke/VarHandle" ∧ (parseMethodDescriptor yX12_does.desc).map (fun d => d.parameters.length) = some 1 := by decide +kernel
set_option maxRecDepth 20000 in
theorem kX11_over : yX11_over.cls ≠ "java/lang/invoke/MethodHandle" ∧ yX11_over.cls ≠ "java/lang/invoke/VarHandle" ∧ (parseMethodDescriptor yX11_over.desc).map (fun d => d.parameters.length) = some 1 := by decide +kernel
set_option maxRecDepth 20000 in
theorem kX12_over : yX12_over.cls ≠ "java/lang/invoke/MethodHandle" ∧ yX12_over.cls ≠ "java/lang/invoke/VarHandle" ∧ (parseMethodDescriptor yX12_over.desc).map (fun d => d.parameters.length) = some 1 := by decide +kernel
set_option maxRecDepth 20000 in
theorem kX11_through : yX11_through.cls ≠ "java/lang/invoke/MethodHandle" ∧ yX11_through.cls ≠ "java/lang/invoke/VarHandle" ∧ (parseMethodDescriptor yX11_through.desc).map (fun d => d.parameters.length) = some 0 := by decide +kernel
set_option maxRecDepth 20000 in
theorem kX12_through : yX12_through.cls ≠ "java/lang/invoke/MethodHandle" ∧ yX12_through.cls ≠ "java/lang/invoke/VarHandle" ∧ (parseMethodDescriptor yX12_through.desc).map (fun d => d.parameters.length) = some 0 := by decide +kernel
set_option maxRecDepth 20000 in
theorem kX11_behind : yX11_behind.cls ≠ "java/lang/invoke/MethodHandle" ∧ yX11_behind.cls ≠ "java/lang/invoke/VarHandle" ∧ (parseMethodDescriptor yX11_behind.desc).map (fun d => d.parameters.length) = some 2 := by decide +kernel
set_option maxRecDepth 20000 in
theorem kX12_behind : yX12_behind.cls ≠ "java/lang/invoke/MethodHandle" ∧ yX12_behind.cls ≠ "java/lang/invoke/VarHandle" ∧ (parseMethodDescriptor yX12_behind.desc).map (fun d => d.parameters.length) = some 2 := by decide +kernel
set_option maxRecDepth 20000 in
theorem kX11_may : yX11_may.cls ≠ "java/lang/invoke/MethodHandle" ∧ yX11_may.cls ≠ "java/lang/invoke/VarHandle" ∧ (parseMethodDescriptor yX11_may.desc).map (fun d => d.parameters.length) = some 3 := by decide +kernel
set_option maxRecDepth 20000 in
theorem kX12_may : yX12_may.cls ≠ "java/lang/invoke/MethodHandle" ∧ yX12_may.cls ≠ "java/lang/invoke/VarHandle" ∧ (parseMethodDescriptor yX12_may.desc).map (fun d => d.parameters.length) = some 3 := by decide +kernel
set_option maxRecDepth 20000 in
theorem kX11_advice : yX11_advice.cls ≠ "java/lang/invoke/MethodHandle" ∧ yX11_advice.cls ≠ "java/lang/invoke/VarHandle" ∧ (parseMethodDescriptor yX11_advice.desc).map (fun d => d.parameters.length) = some 3 := by decide +kernel
set_option maxRecDepth 20000 in
theorem kX12_advice : yX12_advice.cls ≠ "java/lang/invoke/MethodHandle" ∧ yX12_advice.cls ≠ "java/lang/invoke/VarHandle" ∧ (parseMethodDescriptor yX12_advice.desc).map (fun d => d.parameters.length) = some 3 := by decide +kernel
set_option maxRecDepth 20000 in
theorem kX11_check : yX11_check.cls ≠ "java/lang/invoke/MethodHandle" ∧ yX11_check.cls ≠ "java/lang/invoke/VarHandle" ∧ (parseMethodDescriptor yX11_check.desc).map (fun d => d.parameters.length) = some 3 := by decide +kernel
set_option maxRecDepth 20000 in
theorem kX12_check : yX12_check.cls ≠ "java/lang/invoke/MethodHandle" ∧ yX12_check.cls ≠ "java/lang/invoke/VarHandle" ∧ (parseMethodDescriptor yX12_check.desc).map (fun d => d.parameters.length) = some 3 := by decide +kernel
set_option maxRecDepth 20000 in
theorem kX11_hired : yX11_hired.cls ≠ "java/lang/invoke/MethodHandle" ∧ yX11_hired.cls ≠ "java/lang/invoke/VarHandle" ∧ (parseMethodDescriptor yX11_hired.desc).map (fun d => d.parameters.length) = some 1 := by decide +kernel
set_option maxRecDepth 20000 in
theorem kX12_hired : yX12_hired.cls ≠ "java/lang/invoke/MethodHandle" ∧ yX12_hired.cls ≠ "java/lang/invoke/VarHandle" ∧ (parseMethodDescriptor yX12_hired.desc).map (fun d => d.parameters.length) = some 1 := by decide +kernel
set_option maxRecDepth 20000 in
theorem kX11_turns : yX11_turns.cls ≠ "java/lang/invoke/MethodHandle" ∧ yX11_turns.cls ≠ "java/lang/invoke/VarHandle" ∧ (parseMethodDescriptor yX11_turns.desc).map (fun d => d.parameters.length) = some 1 := by decide +kernel
set_option maxRecDepth 20000 in
theorem kX12_turns : yX12_turns.cls ≠ "java/lang/invoke/MethodHandle" ∧ yX12_turns.cls ≠ "java/lang/invoke/VarHandle" ∧ (parseMethodDescriptor yX12_turns.desc).map (fun d => d.parameters.length) = some 1 := by decide +kernel
set_option maxRecDepth 20000 in
theorem kX11_treaty : yX11_treaty.cls ≠ "java/lang/invoke/MethodHandle" ∧ yX11_treaty.cls ≠ "java/lang/invoke/VarHandle" ∧ (parseMethodDescriptor yX11_treaty.desc).map (fun d => d.parameters.length) = some 0 := by decide +kernel
set_option maxRecDepth 20000 in
theorem kX12_treaty : yX12_treaty.cls ≠ "java/lang/invoke/MethodHandle" ∧ yX12_treaty.cls ≠ "java/lang/invoke/VarHandle" ∧ (parseMethodDescriptor yX12_treaty.desc).map (fun d => d.parameters.length) = some 0 := by decide +kernel
set_option maxRecDepth 20000 in
theorem kX11_look : yX11_look.cls ≠ "java/lang/invoke/MethodHandle" ∧ yX11_look.cls ≠ "java/lang/invoke/VarHandle" ∧ (parseMethodDescriptor yX11_look.desc).map (fun d => d.parameters.length) = some 2 := by decide +kernel
set_option maxRecDepth 20000 in
theorem kX12_look : yX12_look.cls ≠ "java/lang/invoke/MethodHandle" ∧ yX12_look.cls ≠ "java/lang/invoke/VarHandle" ∧ (parseMethodDescriptor yX12_look.desc).map (fun d => d.parameters.length) = some 2 := by decide +kernel
set_option maxRecDepth 20000 in
theorem kX11_forget : yX11_forget.cls ≠ "java/lang/invoke/MethodHandle" ∧ yX11_forget.cls ≠ "java/lang/invoke/VarHandle" ∧ (parseMethodDescriptor yX11_forget.desc).map (fun d => d.parameters.length) = some 0 := by decide +kernel
set_option maxRecDepth 20000 in
theorem kX12_forget : yX12_forget.cls ≠ "java/lang/invoke/MethodHandle" ∧ yX12_forget.cls ≠ "java/lang/invoke/VarHandle" ∧ (parseMethodDescriptor yX12_forget.desc).map (fun d => d.parameters.length) = some 0 := by decide +kernel
set_option maxRecDepth 20000 in
theorem kX11_done : yX11_done.cls ≠ "java/lang/invoke/MethodHandle" ∧ yX11_done.cls ≠ "java/lang/invoke/VarHandle" ∧ (parseMethodDescriptor yX11_done.desc).map (fun d => d.parameters.length) = some 0 := by decide +kernel
set_option maxRecDepth 20000 in
theorem kX12_done : yX12_done.cls ≠ "java/lang/invoke/MethodHandle" ∧ yX12_done.cls ≠ "java/lang/invoke/VarHandle" ∧ (parseMethodDescriptor yX12_done.desc).map (fun d => d.parameters.length) = some 0 := by decide +kernel
set_option maxRecDepth 20000 in
theorem kX11_sure : yX11_sure.cls ≠ "java/lang/invoke/MethodHandle" ∧ yX11_sure.cls ≠ "java/lang/invoke/VarHandle" ∧ (parseMethodDescriptor yX11_sure.desc).map (fun d => d.parameters.length) = some 1 := by decide +kernel
set_option maxRecDepth 20000 in
theorem kX12_sure : yX12_sure.cls ≠ "java/lang/invoke/MethodHandle" ∧ yX12_sure.cls ≠ "java/lang/invoke/VarHandle" ∧ (parseMethodDescriptor yX12_sure.desc).map (fun d => d.parameters.length) = some 1 := by decide +kernel
set_option maxRecDepth 20000 in
theorem kX11_chance : yX11_chance.cls ≠ "java/lang/invoke/MethodHandle" ∧ yX11_chance.cls ≠ "java/lang/invoke/VarHandle" ∧ (parseMethodDescriptor yX11_chance.desc).map (fun d => d.parameters.length) = some 1 := by decide +kernel
set_option maxRecDepth 20000 in
theorem kX12_chance : yX12_chance.cls ≠ "java/lang/invoke/MethodHandle" ∧ yX12_chance.cls ≠ "java/lang/invoke/VarHandle" ∧ (parseMethodDescriptor yX12_chance.desc).map (fun d => d.parameters.length) = some 1 := by decide +kernel
set_option maxRecDepth 20000 in
theorem kX11_free : yX11_free.cls ≠ "java/lang/invoke/MethodHandle" ∧ yX11_free.cls ≠ "java/lang/invoke/VarHandle" ∧ (parseMethodDescriptor yX11_free.desc).map (fun d => d.parameters.length) = some 2 := by decide +kernel
set_option maxRecDepth 20000 in
theorem kX12_free : yX12_free.cls ≠ "java/lang/invoke/MethodHandle" ∧ yX12_free.cls ≠ "java/lang/invoke/VarHandle" ∧ (parseMethodDescriptor yX12_free.desc).map (fun d => d.parameters.length) = some 2 := by decide +kernel
set_option maxRecDepth 20000 in
theorem kX11_part : yX11_part.cls ≠ "java/lang/invoke/MethodHandle" ∧ yX11_part.cls ≠ "java/lang/invoke/VarHandle" ∧ (parseMethodDescriptor yX11_part.desc).map (fun d => d.parameters.length) = some 1 := by decide +kernel
set_option maxRecDepth 20000 in
theorem kX12_part : yX12_part.cls ≠ "java/lang/invoke/MethodHandle" ∧ yX12_part.cls ≠ "java/lang/invoke/VarHandle" ∧ (parseMethodDescriptor yX12_part.desc).map (fun d => d.parameters.length) = some 1 := by decide +kernel
set_option maxRecDepth 20000 in
theorem kX11_image : yX11_image.cls ≠ "java/lang/invoke/MethodHandle" ∧ yX11_image.cls ≠ "java/lang/invoke/VarHandle" ∧ (parseMethodDescriptor yX11_image.desc).map (fun d => d.parameters.length) = some 1 := by decide +kernel
set_option maxRecDepth 20000 in
theorem kX12_image : yX12_image.cls ≠ "java/lang/invoke/MethodHandle" ∧ yX12_image.cls ≠ "java/lang/invoke/VarHandle" ∧ (parseMethodDescriptor yX12_image.desc).map (fun d => d.parameters.length) = some 1 := by decide +kernel
set_option maxRecDepth 20000 in
theorem kX11_from : yX11_from.cls ≠ "java/lang/invoke/MethodHandle" ∧ yX11_from.cls ≠ "java/lang/invoke/VarHandle" ∧ (parseMethodDescriptor yX11_from.desc).map (fun d => d.parameters.length) = some 1 := by decide +kernel
set_option maxRecDepth 20000 in
theorem kX12_from : yX12_from.cls ≠ "java/lang/invoke/MethodHandle" ∧ yX12_from.cls ≠ "java/lang/invoke/VarHandle" ∧ (parseMethodDescriptor yX12_from.desc).map (fun d => d.parameters.length) = some 1 := by decide +kernel
set_option maxRecDepth 20000 in
theorem kX11_status : yX11_status.cls ≠ "java/lang/invoke/MethodHandle" ∧ yX11_status.cls ≠ "java/lang/invoke/VarHandle" ∧ (parseMethodDescriptor yX11_status.desc).map (fun d => d.parameters.length) = some 1 := by decide +kernel
set_option maxRecDepth 20000 in
theorem kX12_status : yX12_status.cls ≠ "java/lang/invoke/MethodHandle" ∧ yX12_status.cls ≠ "java/lang/invoke/VarHandle" ∧ (parseMethodDescriptor yX12_status.desc).map (fun d => d.parameters.length) = some 1 := by decide +kernel
set_option maxRecDepth 20000 in
theorem kX11_count : yX11_count.cls ≠ "java/lang/invoke/MethodHandle" ∧ yX11_count.cls ≠ "java/lang/invoke/VarHandle" ∧ (parseMethodDescriptor yX11_count.desc).map (fun d => d.parameters.length) = some 1 := by decide +kernel
set_option maxRecDepth 20000 in
theorem kX12_count : yX12_count.cls ≠ "java/lang/invoke/MethodHandle" ∧ yX12_count.cls ≠ "java/lang/invoke/VarHandle" ∧ (parseMethodDescriptor yX12_count.desc).map (fun d => d.parameters.length) = some 1 := by decide +kernel
set_option maxRecDepth 20000 in
theorem kX11_digest : yX11_digest.cls ≠ "java/lang/invoke/MethodHandle" ∧ yX11_digest.cls ≠ "java/lang/invoke/VarHandle" ∧ (parseMethodDescriptor yX11_digest.desc).map (fun d => d.parameters.length) = some 0 := by decide +kernel
set_option maxRecDepth 20000 in
theorem kX12_digest : yX12_digest.cls ≠ "java/lang/invoke/MethodHandle" ∧ yX12_digest.cls ≠ "java/lang/invoke/VarHandle" ∧ (parseMethodDescriptor yX12_digest.desc).map (fun d => d.parameters.length) = some 0 := by decide +kernel
