section
variable {l : Launch} {dC : Nat → ClassId} {dI : Nat → Nat → Nat} {cI cL cB cZ cT cR : ClassId} {nb : Nat} {adK adV : Nat → Nat}
set_option maxHeartbeats 4000000 in
set_option maxRecDepth 100000 in
theorem metX11_within {a0 : Int32} {a1 : Int32} {a2 : Int32} {k : Int32 → Prop} (hf : pX11_within a0 a1 a2 k) : Met l yX11_within wsX11_within ({ frames := 0, cells := 0, slots := 0, locals := 0 } : Room) (va_Pc [.int a0, .int a1, .int a2] (PW dC dI (TYS cI cL cB cZ cT cR) [])) (roQi k) 0 0 (fun _ => False) := by
  refine Met.ofW (cc := cX11_within) (maxL := 3) (ret := (some .boolean)) (by decide) rfl ?_
  intro p e s m args below meth c s₁ B hml hv
  obtain ⟨rfl, hP, hK, hN⟩ := hv
  have C : CX p s m _ meth c cX11_within 3 wsX11_within RX11 (some .boolean) := ⟨B.exec, B.bytes, hml, findClass_of_methodNamed B.named, atoms_spec (ws := wsX11_within) B.pre, B.returns, B.notSynchronized⟩
  obtain ⟨hx, hb, -, hown, hts, hr, hlocks⟩ := id C
  have hl := lv_entry ([.int a0, .int a1, .int a2]) (n := 3) (Nat.le_of_ble_eq_true rfl)
  rw [lg_entry_eq]
  generalize (lg_sl ([.int a0, .int a1, .int a2]) ++ List.replicate (3 - (lg_sl ([.int a0, .int a1, .int a2])).length) Slot.unset).toArray = ls at hl ⊢
  have hl : lv_has ls 3 [(0, .int a0), (1, .int a1), (2, .int a2)] := hl
  unfold pX11_within at hf
  refine lv_iload_n hx hb dX11_within_0 rfl (lv_at hl 0 rfl) ?_
  refine lv_iload_n hx hb dX11_within_1 rfl (lv_at hl 1 rfl) ?_
  refine lv_icmp_lt (tgt := 14) hx hb dX11_within_2 (by decide) (fun c_1 => ?_) (fun c_1 => ?_)
  · replace hf := hf.1 c_1
    refine lv_iconst (v := (0 : Int32)) hx hb dX11_within_14 (by decide) ?_
    exact W.zret (v := (0 : Int32)) hx hb hr rfl (fun t ht hW => ⟨(0 : Int32), rfl, hf, ht⟩) (fun q h => by cases h) dX11_within_15
  · replace hf := hf.2 c_1
    refine lv_iload_n hx hb dX11_within_5 rfl (lv_at hl 0 rfl) ?_
    refine lv_iload_n hx hb dX11_within_6 rfl (lv_at hl 2 rfl) ?_
    refine lv_icmp_gt (tgt := 14) hx hb dX11_within_7 (by decide) (fun c_2 => ?_) (fun c_2 => ?_)
    · replace hf := hf.1 c_2
      refine lv_iconst (v := (0 : Int32)) hx hb dX11_within_14 (by decide) ?_
      exact W.zret (v := (0 : Int32)) hx hb hr rfl (fun t ht hW => ⟨(0 : Int32), rfl, hf, ht⟩) (fun q h => by cases h) dX11_within_15
    · replace hf := hf.2 c_2
      refine lv_iconst (v := (1 : Int32)) hx hb dX11_within_10 (by decide) ?_
      refine lv_goto (tgt := 15) hx hb dX11_within_11 (by decide) ?_
      exact W.zret (v := (1 : Int32)) hx hb hr rfl (fun t ht hW => ⟨(1 : Int32), rfl, hf, ht⟩) (fun q h => by cases h) dX11_within_15
set_option maxHeartbeats 4000000 in
set_option maxRecDepth 100000 in
theorem metX11_isHigh {a0 : Int32} {k : Int32 → Prop} (hf : pX11_isHigh a0 k) : Met l yX11_isHigh wsX11_isHigh ({ frames := 1, cells := 0, slots := 0, locals := 22 } : Room) (va_Pc [.int a0] (PW dC dI (TYS cI cL cB cZ cT cR) [])) (roQi k) 0 0 (fun _ => False) := by
  refine Met.ofW (cc := cX11_isHigh) (maxL := 1) (ret := (some .boolean)) (by decide) rfl ?_
  intro p e s m args below meth c s₁ B hml hv
  obtain ⟨rfl, hP, hK, hN⟩ := hv
  have C : CX p s m _ meth c cX11_isHigh 1 wsX11_isHigh RX11 (some .boolean) := ⟨B.exec, B.bytes, hml, findClass_of_methodNamed B.named, atoms_spec (ws := wsX11_isHigh) B.pre, B.returns, B.notSynchronized⟩
  obtain ⟨hx, hb, -, hown, hts, hr, hlocks⟩ := id C
  have hl := lv_entry ([.int a0]) (n := 1) (Nat.le_of_ble_eq_true rfl)
  rw [lg_entry_eq]
  generalize (lg_sl ([.int a0]) ++ List.replicate (1 - (lg_sl ([.int a0])).length) Slot.unset).toArray = ls at hl ⊢
  have hl : lv_has ls 1 [(0, .int a0)] := hl
  unfold pX11_isHigh at hf
  refine lv_iload_n hx hb dX11_isHigh_0 rfl (lv_at hl 0 rfl) ?_
  refine lv_iconst (v := (0 : Int32)) hx hb dX11_isHigh_1 (by decide) ?_
  refine lv_bipush (v := (30 : Int32)) hx hb dX11_isHigh_2 (by decide) ?_
  have hPc := hP.sub (ws' := []) [] rfl
  refine ro_calli (va_runS (As := [.int a0, .int (0 : Int32), .int (30 : Int32)]) (rest := []) ⟨hx, hb, hml, hown, hts⟩ (metX11_within hf) (va_cwS 3 hts gX11_isHigh_X11_within rfl rfl rfl kX11_within ⟨Nat.le_of_ble_eq_true rfl, Nat.le_of_ble_eq_true rfl⟩) ⟨PW.blind, fun U hU hW => ⟨rfl, PW.go hU hW hPc hK hN⟩⟩ rfl rfl hl.1 rfl (lv_room (Nat.le_of_ble_eq_true rfl)) dX11_isHigh_4 ⟨Nat.zero_le _, Nat.zero_le _⟩) (fun r_1 hf => ?_)
  obtain ⟨hz, hf⟩ := hf
  exact W.zret (v := r_1) hx hb hr hz.nar (fun t ht hW => ⟨r_1, rfl, hf, ht⟩) (fun q h => by cases h) dX11_isHigh_7
set_option maxHeartbeats 4000000 in
set_option maxRecDepth 100000 in
theorem metX11_isMinute {a0 : Int32} {k : Int32 → Prop} (hf : pX11_isMinute a0 k) : Met l yX11_isMinute wsX11_isMinute ({ frames := 1, cells := 0, slots := 0, locals := 22 } : Room) (va_Pc [.int a0] (PW dC dI (TYS cI cL cB cZ cT cR) [])) (roQi k) 0 0 (fun _ => False) := by
  refine Met.ofW (cc := cX11_isMinute) (maxL := 1) (ret := (some .boolean)) (by decide) rfl ?_
  intro p e s m args below meth c s₁ B hml hv
  obtain ⟨rfl, hP, hK, hN⟩ := hv
  have C : CX p s m _ meth c cX11_isMinute 1 wsX11_isMinute RX11 (some .boolean) := ⟨B.exec, B.bytes, hml, findClass_of_methodNamed B.named, atoms_spec (ws := wsX11_isMinute) B.pre, B.returns, B.notSynchronized⟩
  obtain ⟨hx, hb, -, hown, hts, hr, hlocks⟩ := id C
  have hl := lv_entry ([.int a0]) (n := 1) (Nat.le_of_ble_eq_true rfl)
  rw [lg_entry_eq]
  generalize (lg_sl ([.int a0]) ++ List.replicate (1 - (lg_sl ([.int a0])).length) Slot.unset).toArray = ls at hl ⊢
  have hl : lv_has ls 1 [(0, .int a0)] := hl
  unfold pX11_isMinute at hf
  refine lv_iload_n hx hb dX11_isMinute_0 rfl (lv_at hl 0 rfl) ?_
  refine lv_iconst (v := (0 : Int32)) hx hb dX11_isMinute_1 (by decide) ?_
  refine lv_bipush (v := (99 : Int32)) hx hb dX11_isMinute_2 (by decide) ?_
  have hPc := hP.sub (ws' := []) [] rfl
  refine ro_calli (va_runS (As := [.int a0, .int (0 : Int32), .int (99 : Int32)]) (rest := []) ⟨hx, hb, hml, hown, hts⟩ (metX11_within hf) (va_cwS 3 hts gX11_isMinute_X11_within rfl rfl rfl kX11_within ⟨Nat.le_of_ble_eq_true rfl, Nat.le_of_ble_eq_true rfl⟩) ⟨PW.blind, fun U hU hW => ⟨rfl, PW.go hU hW hPc hK hN⟩⟩ rfl rfl hl.1 rfl (lv_room (Nat.le_of_ble_eq_true rfl)) dX11_isMinute_4 ⟨Nat.zero_le _, Nat.zero_le _⟩) (fun r_1 hf => ?_)
  obtain ⟨hz, hf⟩ := hf
  exact W.zret (v := r_1) hx hb hr hz.nar (fun t ht hW => ⟨r_1, rfl, hf, ht⟩) (fun q h => by cases h) dX11_isMinute_7
set_option maxHeartbeats 4000000 in
set_option maxRecDepth 100000 in
theorem metX7_at {h0 h1 n_cells : Nat} {s_most s_width s_size : Int32} {s_cells : Nat → Int32} {a1 : Int32} {a2 : Int32} {k : Int32 → Prop} (hf : pX7_at n_cells s_width s_cells a1 a2 k) : Met l yX7_at wsX7_at ({ frames := 0, cells := 0, slots := 0, locals := 0 } : Room) (va_Pc [.ref h0, .int a1, .int a2] (PW dC dI (TYS cI cL cB cZ cT cR) [(h0, .inr (7, [.int s_most, .int s_width, .ref h1, .int s_size])), (h1, .inl (cI, n_cells, .inl s_cells))])) (roQi k) 0 0 (fun _ => False) := by
  refine Met.ofW (cc := cX7_at) (maxL := 4) (ret := (some .int)) (by decide) rfl ?_
  intro p e s m args below meth c s₁ B hml hv
  obtain ⟨rfl, hP, hK, hN⟩ := hv
  have C : CX p s m _ meth c cX7_at 4 wsX7_at RX7 (some .int) := ⟨B.exec, B.bytes, hml, findClass_of_methodNamed B.named, atoms_spec (ws := wsX7_at) B.pre, B.returns, B.notSynchronized⟩
  obtain ⟨hx, hb, -, hown, hts, hr, hlocks⟩ := id C
  have hl := lv_entry ([.ref h0, .int a1, .int a2]) (n := 4) (Nat.le_of_ble_eq_true rfl)
  rw [lg_entry_eq]
  generalize (lg_sl ([.ref h0, .int a1, .int a2]) ++ List.replicate (4 - (lg_sl ([.ref h0, .int a1, .int a2])).length) Slot.unset).toArray = ls at hl ⊢
  have hl : lv_has ls 4 [(0, .ref h0), (1, .int a1), (2, .int a2)] := hl
  unfold pX7_at at hf
  refine lv_iload_n hx hb dX7_at_0 rfl (lv_at hl 1 rfl) ?_
  refine lv_aload_n hx hb dX7_at_1 rfl (lv_at hl 0 rfl) ?_
  refine va_get (D := (dC, dI)) (ci := 7) (v := .int s_width) (C := RX7) (T := TX7) (N := 4) hx hb hts iX7_at_X7 hown hK hP 0 rfl rfl 1 (by decide) (hts _ mX7_at_f24) (fun _ h9 => h9) rfl dX7_at_2 ?_
  refine lv_imul hx hb dX7_at_5 ?_
  refine lv_iload_n hx hb dX7_at_6 rfl (lv_at hl 2 rfl) ?_
  refine lv_iadd hx hb dX7_at_7 ?_
  refine lv_istore_n (lv' := [(3, .int ((a1 * s_width) + a2)), (0, .ref h0), (1, .int a1), (2, .int a2)]) hx hb dX7_at_8 rfl hl (by decide) rfl (fun ls hl => ?_)
  refine lv_iload_n hx hb dX7_at_9 rfl (lv_at hl 0 rfl) ?_
  refine lv_if_lt (tgt := 31) hx hb dX7_at_10 (by decide) (fun c_1 => ?_) (fun c_1 => ?_)
  · replace hf := hf.1 c_1
    refine lv_iconst (v := (0 : Int32)) hx hb dX7_at_31 (by decide) ?_
    exact W.iret (v := (0 : Int32)) hx hb hr (fun t ht hW => ⟨(0 : Int32), rfl, hf, ht⟩) (fun q h => by cases h) dX7_at_32
  · replace hf := hf.2 c_1
    refine lv_iload_n hx hb dX7_at_13 rfl (lv_at hl 0 rfl) ?_
    refine lv_aload_n hx hb dX7_at_14 rfl (lv_at hl 1 rfl) ?_
    refine va_get (D := (dC, dI)) (ci := 7) (v := .ref h1) (C := RX7) (T := TX7) (N := 4) hx hb hts iX7_at_X7 hown hK hP 0 rfl rfl 2 (by decide) (hts _ mX7_at_f27) (fun _ h9 => h9) rfl dX7_at_15 ?_
    refine va_alen (v := (nI n_cells)) hx hb hK hP 1 0 rfl rfl rfl dX7_at_18 ?_
    refine lv_icmp_ge (tgt := 31) hx hb dX7_at_19 (by decide) (fun c_2 => ?_) (fun c_2 => ?_)
    · replace hf := hf.1 c_2
      refine lv_iconst (v := (0 : Int32)) hx hb dX7_at_31 (by decide) ?_
      exact W.iret (v := (0 : Int32)) hx hb hr (fun t ht hW => ⟨(0 : Int32), rfl, hf, ht⟩) (fun q h => by cases h) dX7_at_32
    · replace hf := hf.2 c_2
      refine lv_aload_n hx hb dX7_at_22 rfl (lv_at hl 1 rfl) ?_
      refine va_get (D := (dC, dI)) (ci := 7) (v := .ref h1) (C := RX7) (T := TX7) (N := 4) hx hb hts iX7_at_X7 hown hK hP 0 rfl rfl 2 (by decide) (hts _ mX7_at_f27) (fun _ h9 => h9) rfl dX7_at_23 ?_
      refine lv_iload_n hx hb dX7_at_26 rfl (lv_at hl 0 rfl) ?_
      obtain ⟨h_3, hf⟩ := hf
      refine va_iald hx hb hK hP 1 0 rfl rfl h_3 dX7_at_27 ?_
      refine lv_goto (tgt := 32) hx hb dX7_at_28 (by decide) ?_
      exact W.iret (v := (s_cells ((a1 * s_width) + a2).toNatClampNeg)) hx hb hr (fun t ht hW => ⟨(s_cells ((a1 * s_width) + a2).toNatClampNeg), rfl, hf, ht⟩) (fun q h => by cases h) dX7_at_32
set_option maxHeartbeats 4000000 in
set_option maxRecDepth 100000 in
theorem metX7_lastAt {h0 h1 n_cells : Nat} {s_most s_width s_size : Int32} {s_cells : Nat → Int32} {a1 : Int32} {k : Int32 → Prop} (hf : pX7_lastAt n_cells s_width s_size s_cells a1 k) : Met l yX7_lastAt wsX7_lastAt ({ frames := 1, cells := 0, slots := 0, locals := 23 } : Room) (va_Pc [.ref h0, .int a1] (PW dC dI (TYS cI cL cB cZ cT cR) [(h0, .inr (7, [.int s_most, .int s_width, .ref h1, .int s_size])), (h1, .inl (cI, n_cells, .inl s_cells))])) (roQi k) 0 0 (fun _ => False) := by
  refine Met.ofW (cc := cX7_lastAt) (maxL := 2) (ret := (some .int)) (by decide) rfl ?_
  intro p e s m args below meth c s₁ B hml hv
  obtain ⟨rfl, hP, hK, hN⟩ := hv
  have C : CX p s m _ meth c cX7_lastAt 2 wsX7_lastAt RX7 (some .int) := ⟨B.exec, B.bytes, hml, findClass_of_methodNamed B.named, atoms_spec (ws := wsX7_lastAt) B.pre, B.returns, B.notSynchronized⟩
  obtain ⟨hx, hb, -, hown, hts, hr, hlocks⟩ := id C
  have hl := lv_entry ([.ref h0, .int a1]) (n := 2) (Nat.le_of_ble_eq_true rfl)
  rw [lg_entry_eq]
  generalize (lg_sl ([.ref h0, .int a1]) ++ List.replicate (2 - (lg_sl ([.ref h0, .int a1])).length) Slot.unset).toArray = ls at hl ⊢
  have hl : lv_has ls 2 [(0, .ref h0), (1, .int a1)] := hl
  unfold pX7_lastAt at hf
  refine lv_aload_n hx hb dX7_lastAt_0 rfl (lv_at hl 0 rfl) ?_
  refine va_get (D := (dC, dI)) (ci := 7) (v := .int s_size) (C := RX7) (T := TX7) (N := 4) hx hb hts iX7_lastAt_X7 hown hK hP 0 rfl rfl 3 (by decide) (hts _ mX7_lastAt_f9) (fun _ h9 => h9) rfl dX7_lastAt_1 ?_
  refine lv_if_ne (tgt := 11) hx hb dX7_lastAt_4 (by decide) (fun c_1 => ?_) (fun c_1 => ?_)
  · replace hf := hf.2 c_1
    refine lv_aload_n hx hb dX7_lastAt_11 rfl (lv_at hl 0 rfl) ?_
    refine lv_aload_n hx hb dX7_lastAt_12 rfl (lv_at hl 0 rfl) ?_
    refine va_get (D := (dC, dI)) (ci := 7) (v := .int s_size) (C := RX7) (T := TX7) (N := 4) hx hb hts iX7_lastAt_X7 hown hK hP 0 rfl rfl 3 (by decide) (hts _ mX7_lastAt_f9) (fun _ h9 => h9) rfl dX7_lastAt_13 ?_
    refine lv_iconst (v := (1 : Int32)) hx hb dX7_lastAt_16 (by decide) ?_
    refine lv_isub hx hb dX7_lastAt_17 ?_
    refine lv_iload_n hx hb dX7_lastAt_18 rfl (lv_at hl 1 rfl) ?_
    have hPc := hP.sub (ws' := [(h0, .inr (7, [.int s_most, .int s_width, .ref h1, .int s_size])), (h1, .inl (cI, n_cells, .inl s_cells))]) [0, 1] rfl
    refine ro_calli (va_runV (As := [.int (s_size - (1 : Int32)), .int a1]) (rest := []) ⟨hx, hb, hml, hown, hts⟩ (metX7_at hf) (cwV 2 hts gX7_lastAt_X7_at rfl rfl rfl ⟨rfl, kX7_at⟩ ⟨Nat.le_of_ble_eq_true rfl, Nat.le_of_ble_eq_true rfl⟩) ⟨PW.blind, va_recv hK hPc (ci := 7) (q0 := 0) rfl rfl, fun U hU hW => ⟨rfl, PW.go hU hW hPc hK hN⟩⟩ rfl rfl hl.1 rfl (lv_room (Nat.le_of_ble_eq_true rfl)) dX7_lastAt_19 ⟨Nat.zero_le _, Nat.zero_le _⟩) (fun r_2 hf => ?_)
    exact W.iret (v := r_2) hx hb hr (fun t ht hW => ⟨r_2, rfl, hf, ht⟩) (fun q h => by cases h) dX7_lastAt_22
  · replace hf := hf.1 c_1
    refine lv_iconst (v := (-1 : Int32)) hx hb dX7_lastAt_7 (by decide) ?_
    refine lv_goto (tgt := 22) hx hb dX7_lastAt_8 (by decide) ?_
    exact W.iret (v := (-1 : Int32)) hx hb hr (fun t ht hW => ⟨(-1 : Int32), rfl, hf, ht⟩) (fun q h => by cases h) dX7_lastAt_22
set_option maxHeartbeats 4000000 in
set_option maxRecDepth 100000 in
theorem metX7_isFull {h0 r_cells : Nat} {s_most s_width s_size : Int32}  {k : Int32 → Prop} (hf : pX7_isFull s_most s_size k) : Met l yX7_isFull wsX7_isFull ({ frames := 0, cells := 0, slots := 0, locals := 0 } : Room) (va_Pc [.ref h0] (PW dC dI (TYS cI cL cB cZ cT cR) [(h0, .inr (7, [.int s_most, .int s_width, .ref r_cells, .int s_size]))])) (roQi k) 0 0 (fun _ => False) := by
  refine Met.ofW (cc := cX7_isFull) (maxL := 1) (ret := (some .boolean)) (by decide) rfl ?_
  intro p e s m args below meth c s₁ B hml hv
  obtain ⟨rfl, hP, hK, hN⟩ := hv
  have C : CX p s m _ meth c cX7_isFull 1 wsX7_isFull RX7 (some .boolean) := ⟨B.exec, B.bytes, hml, findClass_of_methodNamed B.named, atoms_spec (ws := wsX7_isFull) B.pre, B.returns, B.notSynchronized⟩
  obtain ⟨hx, hb, -, hown, hts, hr, hlocks⟩ := id C
  have hl := lv_entry ([.ref h0]) (n := 1) (Nat.le_of_ble_eq_true rfl)
  rw [lg_entry_eq]
  generalize (lg_sl ([.ref h0]) ++ List.replicate (1 - (lg_sl ([.ref h0])).length) Slot.unset).toArray = ls at hl ⊢
  have hl : lv_has ls 1 [(0, .ref h0)] := hl
  unfold pX7_isFull at hf
  refine lv_aload_n hx hb dX7_isFull_0 rfl (lv_at hl 0 rfl) ?_
  refine va_get (D := (dC, dI)) (ci := 7) (v := .int s_size) (C := RX7) (T := TX7) (N := 4) hx hb hts iX7_isFull_X7 hown hK hP 0 rfl rfl 3 (by decide) (hts _ mX7_isFull_f9) (fun _ h9 => h9) rfl dX7_isFull_1 ?_
  refine lv_aload_n hx hb dX7_isFull_4 rfl (lv_at hl 0 rfl) ?_
  refine va_get (D := (dC, dI)) (ci := 7) (v := .int s_most) (C := RX7) (T := TX7) (N := 4) hx hb hts iX7_isFull_X7 hown hK hP 0 rfl rfl 0 (by decide) (hts _ mX7_isFull_f21) (fun _ h9 => h9) rfl dX7_isFull_5 ?_
  refine lv_icmp_lt (tgt := 15) hx hb dX7_isFull_8 (by decide) (fun c_1 => ?_) (fun c_1 => ?_)
  · replace hf := hf.1 c_1
    refine lv_iconst (v := (0 : Int32)) hx hb dX7_isFull_15 (by decide) ?_
    exact W.zret (v := (0 : Int32)) hx hb hr rfl (fun t ht hW => ⟨(0 : Int32), rfl, hf, ht⟩) (fun q h => by cases h) dX7_isFull_16
  · replace hf := hf.2 c_1
    refine lv_iconst (v := (1 : Int32)) hx hb dX7_isFull_11 (by decide) ?_
    refine lv_goto (tgt := 16) hx hb dX7_isFull_12 (by decide) ?_
    exact W.zret (v := (1 : Int32)) hx hb hr rfl (fun t ht hW => ⟨(1 : Int32), rfl, hf, ht⟩) (fun q h => by cases h) dX7_isFull_16
set_option maxHeartbeats 4000000 in
set_option maxRecDepth 100000 in
theorem metX7_open {h0 r_cells : Nat} {s_most s_width s_size : Int32}  {sz : Nat} {k : Int32 → Int32 → Prop} (hf : pX7_open s_most s_size k) : Met l yX7_open wsX7_open ({ frames := 1, cells := 0, slots := 0, locals := 20 } : Room) (va_Pc [.ref h0] (PR dC dI (TYS cI cL cB cZ cT cR) [(h0, .inr (7, [.int s_most, .int s_width, .ref r_cells, .int s_size]))] sz)) (va_Qi (fun (r : Int32) (u : Int32) => k r u) (fun (u : Int32) t => va_P (dC, dI) vwCl [(h0, .inr (7, [.int s_most, .int s_width, .ref r_cells, .int u]))] t.heap ∧ va_D (va_A [(h0, .inr (7, [.int s_most, .int s_width, .ref r_cells, .int s_size]))] sz) [(h0, .inr (7, [.int s_most, .int s_width, .ref r_cells, .int u]))]) (va_A [(h0, .inr (7, [.int s_most, .int s_width, .ref r_cells, .int s_size]))] sz)) 0 0 (va_A [(h0, .inr (7, [.int s_most, .int s_width, .ref r_cells, .int s_size]))] sz) := by
  refine Met.ofW (cc := cX7_open) (maxL := 1) (ret := (some .int)) (by decide) rfl ?_
  intro p e s m args below meth c s₁ B hml hv
  obtain ⟨rfl, hsz, hP, hK, hN, hD0⟩ := hv
  have C : CX p s m _ meth c cX7_open 1 wsX7_open RX7 (some .int) := ⟨B.exec, B.bytes, hml, findClass_of_methodNamed B.named, atoms_spec (ws := wsX7_open) B.pre, B.returns, B.notSynchronized⟩
  obtain ⟨hx, hb, -, hown, hts, hr, hlocks⟩ := id C
  subst hsz
  have hD := hD0.self (sz := s.heap.size)
  generalize hAe : va_A [(h0, .inr (7, [.int s_most, .int s_width, .ref r_cells, .int s_size]))] s.heap.size = A at hD ⊢
  have hA : ∀ q : Nat, s.heap.size ≤ q → A q := fun q h => by rw [← hAe]; exact Or.inr h
  have hS : va_S A s.heap s.heap [] := va_S.rf
  have hl := lv_entry ([.ref h0]) (n := 1) (Nat.le_of_ble_eq_true rfl)
  rw [lg_entry_eq]
  generalize (lg_sl ([.ref h0]) ++ List.replicate (1 - (lg_sl ([.ref h0])).length) Slot.unset).toArray = ls at hl ⊢
  have hl : lv_has ls 1 [(0, .ref h0)] := hl
  unfold pX7_open at hf
  obtain ⟨H, hH⟩ : ∃ H, H = s.heap := ⟨_, rfl⟩
  obtain ⟨locs, hlo⟩ : ∃ L : List Loc, L = [] := ⟨_, rfl⟩
  have hS : va_S A s.heap H locs := by rw [hH, hlo]; exact hS
  rw [← hH] at hP
  have hG : W p l e ({ frames := 1, cells := 0, slots := 0, locals := 20 } : Room) s m [.ref h0].toArray below meth c H locs 0 0 (MQ below (va_Qi (fun (r : Int32) (u : Int32) => k r u) (fun (u : Int32) t => va_P (dC, dI) vwCl [(h0, .inr (7, [.int s_most, .int s_width, .ref r_cells, .int u]))] t.heap ∧ va_D A [(h0, .inr (7, [.int s_most, .int s_width, .ref r_cells, .int u]))]) A) [.ref h0].toArray s 0 0 A) (F0 m 0 ls []) := by
    clear hlo hH hD0
    refine lv_aload_n hx hb dX7_open_0 rfl (lv_at hl 0 rfl) ?_
    have hPc := hP.sub (ws' := [(h0, .inr (7, [.int s_most, .int s_width, .ref r_cells, .int s_size]))]) [0] rfl
    refine ro_calli (va_runV (As := []) (rest := []) ⟨hx, hb, hml, hown, hts⟩ (metX7_isFull hf) (cwV 0 hts gX7_open_X7_isFull rfl rfl rfl ⟨rfl, kX7_isFull⟩ ⟨Nat.le_of_ble_eq_true rfl, Nat.le_of_ble_eq_true rfl⟩) ⟨PW.blind, va_recv hK hPc (ci := 7) (q0 := 0) rfl rfl, fun U hU hW => ⟨rfl, PW.go hU hW hPc hK hN⟩⟩ rfl rfl hl.1 rfl (lv_room (Nat.le_of_ble_eq_true rfl)) dX7_open_1 ⟨Nat.zero_le _, Nat.zero_le _⟩) (fun r_1 hf => ?_)
    refine lv_if_eq (tgt := 10) hx hb dX7_open_4 (by decide) (fun c_2 => ?_) (fun c_2 => ?_)
    · replace hf := hf.1 c_2
      refine lv_aload_n hx hb dX7_open_10 rfl (lv_at hl 0 rfl) ?_
      refine lv_dup hx hb dX7_open_11 rfl ?_
      refine va_get (D := (dC, dI)) (ci := 7) (v := .int s_size) (C := RX7) (T := TX7) (N := 4) hx hb hts iX7_open_X7 hown hK hP 0 rfl rfl 3 (by decide) (hts _ mX7_open_f9) (fun _ h9 => h9) rfl dX7_open_12 ?_
      refine lv_iconst (v := (1 : Int32)) hx hb dX7_open_15 (by decide) ?_
      refine lv_iadd hx hb dX7_open_16 ?_
      refine va_put (D := (dC, dI)) (ci := 7) (v := .int (s_size + (1 : Int32))) (ty := .int) (C := RX7) (T := TX7) (N := 4) hx hb hts iX7_open_X7 tyX7 tyX7_ok nmX7 hown hK hP hD hS 0 rfl rfl 3 (by decide) (hts _ mX7_open_f9) (fun _ h9 => h9) rfl (by decide +kernel) rfl rfl (Nat.le_of_ble_eq_true rfl) dX7_open_17 (fun H locs hP hD hS => ?_)
      replace hP : va_P (dC, dI) vwCl [(h0, .inr (7, [.int s_most, .int s_width, .ref r_cells, .int (s_size + (1 : Int32))]))] H := hP
      replace hD : va_D A [(h0, .inr (7, [.int s_most, .int s_width, .ref r_cells, .int (s_size + (1 : Int32))]))] := hD
      refine lv_aload_n hx hb dX7_open_20 rfl (lv_at hl 0 rfl) ?_
      refine va_get (D := (dC, dI)) (ci := 7) (v := .int (s_size + (1 : Int32))) (C := RX7) (T := TX7) (N := 4) hx hb hts iX7_open_X7 hown hK hP 0 rfl rfl 3 (by decide) (hts _ mX7_open_f9) (fun _ h9 => h9) rfl dX7_open_21 ?_
      refine lv_iconst (v := (1 : Int32)) hx hb dX7_open_24 (by decide) ?_
      refine lv_isub hx hb dX7_open_25 ?_
      exact W.iret (v := ((s_size + (1 : Int32)) - (1 : Int32))) hx hb hr (fun t ht hW => ⟨⟨((s_size + (1 : Int32)) - (1 : Int32)), ((s_size + (1 : Int32))), rfl, hf, by rw [ht]; exact hP, hD⟩, hS.F ht⟩) hS.2.2 dX7_open_26
    · replace hf := hf.2 c_2
      refine lv_bipush (v := (-4 : Int32)) hx hb dX7_open_7 (by decide) ?_
      exact W.iret (v := (-4 : Int32)) hx hb hr (fun t ht hW => ⟨⟨(-4 : Int32), (s_size), rfl, hf, by rw [ht]; exact hP, hD⟩, hS.F ht⟩) hS.2.2 dX7_open_9
  rw [hH, hlo] at hG
  exact hG
set_option maxHeartbeats 4000000 in
set_option maxRecDepth 100000 in
theorem metX7_put {h0 h1 n_cells : Nat} {s_most s_width s_size : Int32} {s_cells : Nat → Int32} {a1 : Int32} {a2 : Int32} {a3 : Int32} {sz : Nat} {k : (Nat → Int32) → Prop} (hf : pX7_put n_cells s_width s_cells a1 a2 a3 k) : Met l yX7_put wsX7_put ({ frames := 0, cells := 0, slots := 0, locals := 0 } : Room) (va_Pc [.ref h0, .int a1, .int a2, .int a3] (PR dC dI (TYS cI cL cB cZ cT cR) [(h0, .inr (7, [.int s_most, .int s_width, .ref h1, .int s_size])), (h1, .inl (cI, n_cells, .inl s_cells))] sz)) (va_Qv (fun (u : (Nat → Int32)) => k u) (fun (u : (Nat → Int32)) t => va_P (dC, dI) vwCl [(h0, .inr (7, [.int s_most, .int s_width, .ref h1, .int s_size])), (h1, .inl (cI, n_cells, .inl u))] t.heap ∧ va_D (va_A [(h0, .inr (7, [.int s_most, .int s_width, .ref h1, .int s_size])), (h1, .inl (cI, n_cells, .inl s_cells))] sz) [(h0, .inr (7, [.int s_most, .int s_width, .ref h1, .int s_size])), (h1, .inl (cI, n_cells, .inl u))]) (va_A [(h0, .inr (7, [.int s_most, .int s_width, .ref h1, .int s_size])), (h1, .inl (cI, n_cells, .inl s_cells))] sz)) 0 0 (va_A [(h0, .inr (7, [.int s_most, .int s_width, .ref h1, .int s_size])), (h1, .inl (cI, n_cells, .inl s_cells))] sz) := by
  refine Met.ofW (cc := cX7_put) (maxL := 5) (ret := none) (by decide) rfl ?_
  intro p e s m args below meth c s₁ B hml hv
  obtain ⟨rfl, hsz, hP, hK, hN, hD0⟩ := hv
  have C : CX p s m _ meth c cX7_put 5 wsX7_put RX7 none := ⟨B.exec, B.bytes, hml, findClass_of_methodNamed B.named, atoms_spec (ws := wsX7_put) B.pre, B.returns, B.notSynchronized⟩
  obtain ⟨hx, hb, -, hown, hts, hr, hlocks⟩ := id C
  subst hsz
  have hD := hD0.self (sz := s.heap.size)
  generalize hAe : va_A [(h0, .inr (7, [.int s_most, .int s_width, .ref h1, .int s_size])), (h1, .inl (cI, n_cells, .inl s_cells))] s.heap.size = A at hD ⊢
  have hA : ∀ q : Nat, s.heap.size ≤ q → A q := fun q h => by rw [← hAe]; exact Or.inr h
  have hS : va_S A s.heap s.heap [] := va_S.rf
  have hl := lv_entry ([.ref h0, .int a1, .int a2, .int a3]) (n := 5) (Nat.le_of_ble_eq_true rfl)
  rw [lg_entry_eq]
  generalize (lg_sl ([.ref h0, .int a1, .int a2, .int a3]) ++ List.replicate (5 - (lg_sl ([.ref h0, .int a1, .int a2, .int a3])).length) Slot.unset).toArray = ls at hl ⊢
  have hl : lv_has ls 5 [(0, .ref h0), (1, .int a1), (2, .int a2), (3, .int a3)] := hl
  unfold pX7_put at hf
  obtain ⟨H, hH⟩ : ∃ H, H = s.heap := ⟨_, rfl⟩
  obtain ⟨locs, hlo⟩ : ∃ L : List Loc, L = [] := ⟨_, rfl⟩
  have hS : va_S A s.heap H locs := by rw [hH, hlo]; exact hS
  rw [← hH] at hP
  have hG : W p l e ({ frames := 0, cells := 0, slots := 0, locals := 0 } : Room) s m [.ref h0, .int a1, .int a2, .int a3].toArray below meth c H locs 0 0 (MQ below (va_Qv (fun (u : (Nat → Int32)) => k u) (fun (u : (Nat → Int32)) t => va_P (dC, dI) vwCl [(h0, .inr (7, [.int s_most, .int s_width, .ref h1, .int s_size])), (h1, .inl (cI, n_cells, .inl u))] t.heap ∧ va_D A [(h0, .inr (7, [.int s_most, .int s_width, .ref h1, .int s_size])), (h1, .inl (cI, n_cells, .inl u))]) A) [.ref h0, .int a1, .int a2, .int a3].toArray s 0 0 A) (F0 m 0 ls []) := by
    clear hlo hH hD0
    refine lv_iload_n hx hb dX7_put_0 rfl (lv_at hl 1 rfl) ?_
    refine lv_aload_n hx hb dX7_put_1 rfl (lv_at hl 0 rfl) ?_
    refine va_get (D := (dC, dI)) (ci := 7) (v := .int s_width) (C := RX7) (T := TX7) (N := 4) hx hb hts iX7_put_X7 hown hK hP 0 rfl rfl 1 (by decide) (hts _ mX7_put_f24) (fun _ h9 => h9) rfl dX7_put_2 ?_
    refine lv_imul hx hb dX7_put_5 ?_
    refine lv_iload_n hx hb dX7_put_6 rfl (lv_at hl 2 rfl) ?_
    refine lv_iadd hx hb dX7_put_7 ?_
    refine lv_istore (lv' := [(4, .int ((a1 * s_width) + a2)), (0, .ref h0), (1, .int a1), (2, .int a2), (3, .int a3)]) hx hb dX7_put_8 hl (by decide) rfl (fun ls hl => ?_)
    refine lv_iload hx hb dX7_put_10 (lv_at hl 0 rfl) ?_
    refine lv_if_lt (tgt := 33) hx hb dX7_put_12 (by decide) (fun c_1 => ?_) (fun c_1 => ?_)
    · replace hf := hf.1 c_1
      exact W.vret hx hb hr (fun t ht hW => ⟨⟨(s_cells), rfl, hf, by rw [ht]; exact hP, hD⟩, hS.F ht⟩) hS.2.2 dX7_put_33
    · replace hf := hf.2 c_1
      refine lv_iload hx hb dX7_put_15 (lv_at hl 0 rfl) ?_
      refine lv_aload_n hx hb dX7_put_17 rfl (lv_at hl 1 rfl) ?_
      refine va_get (D := (dC, dI)) (ci := 7) (v := .ref h1) (C := RX7) (T := TX7) (N := 4) hx hb hts iX7_put_X7 hown hK hP 0 rfl rfl 2 (by decide) (hts _ mX7_put_f27) (fun _ h9 => h9) rfl dX7_put_18 ?_
      refine va_alen (v := (nI n_cells)) hx hb hK hP 1 0 rfl rfl rfl dX7_put_21 ?_
      refine lv_icmp_ge (tgt := 33) hx hb dX7_put_22 (by decide) (fun c_2 => ?_) (fun c_2 => ?_)
      · replace hf := hf.1 c_2
        exact W.vret hx hb hr (fun t ht hW => ⟨⟨(s_cells), rfl, hf, by rw [ht]; exact hP, hD⟩, hS.F ht⟩) hS.2.2 dX7_put_33
      · replace hf := hf.2 c_2
        refine lv_aload_n hx hb dX7_put_25 rfl (lv_at hl 1 rfl) ?_
        refine va_get (D := (dC, dI)) (ci := 7) (v := .ref h1) (C := RX7) (T := TX7) (N := 4) hx hb hts iX7_put_X7 hown hK hP 0 rfl rfl 2 (by decide) (hts _ mX7_put_f27) (fun _ h9 => h9) rfl dX7_put_26 ?_
        refine lv_iload hx hb dX7_put_29 (lv_at hl 0 rfl) ?_
        refine lv_iload_n hx hb dX7_put_31 rfl (lv_at hl 4 rfl) ?_
        obtain ⟨h_3, hf⟩ := hf
        refine va_iast hx hb hK hP hD hS 1 0 rfl rfl h_3 dX7_put_32 (fun H locs hP hD hS => ?_)
        replace hP : va_P (dC, dI) vwCl [(h0, .inr (7, [.int s_most, .int s_width, .ref h1, .int s_size])), (h1, .inl (cI, n_cells, .inl (upd s_cells ((a1 * s_width) + a2).toNatClampNeg a3)))] H := hP
        replace hD : va_D A [(h0, .inr (7, [.int s_most, .int s_width, .ref h1, .int s_size])), (h1, .inl (cI, n_cells, .inl (upd s_cells ((a1 * s_width) + a2).toNatClampNeg a3)))] := hD
        exact W.vret hx hb hr (fun t ht hW => ⟨⟨((upd s_cells ((a1 * s_width) + a2).toNatClampNeg a3)), rfl, hf, by rw [ht]; exact hP, hD⟩, hS.F ht⟩) hS.2.2 dX7_put_33
  rw [hH, hlo] at hG
  exact hG
set_option maxHeartbeats 4000000 in
set_option maxRecDepth 100000 in
theorem metX7_size {h0 r_cells : Nat} {s_most s_width s_size : Int32}  {k : Int32 → Prop} (hf : pX7_size s_size k) : Met l yX7_size wsX7_size ({ frames := 0, cells := 0, slots := 0, locals := 0 } : Room) (va_Pc [.ref h0] (PW dC dI (TYS cI cL cB cZ cT cR) [(h0, .inr (7, [.int s_most, .int s_width, .ref r_cells, .int s_size]))])) (roQi k) 0 0 (fun _ => False) := by
  refine Met.ofW (cc := cX7_size) (maxL := 1) (ret := (some .int)) (by decide) rfl ?_
  intro p e s m args below meth c s₁ B hml hv
  obtain ⟨rfl, hP, hK, hN⟩ := hv
  have C : CX p s m _ meth c cX7_size 1 wsX7_size RX7 (some .int) := ⟨B.exec, B.bytes, hml, findClass_of_methodNamed B.named, atoms_spec (ws := wsX7_size) B.pre, B.returns, B.notSynchronized⟩
  obtain ⟨hx, hb, -, hown, hts, hr, hlocks⟩ := id C
  have hl := lv_entry ([.ref h0]) (n := 1) (Nat.le_of_ble_eq_true rfl)
  rw [lg_entry_eq]
  generalize (lg_sl ([.ref h0]) ++ List.replicate (1 - (lg_sl ([.ref h0])).length) Slot.unset).toArray = ls at hl ⊢
  have hl : lv_has ls 1 [(0, .ref h0)] := hl
  unfold pX7_size at hf
  refine lv_aload_n hx hb dX7_size_0 rfl (lv_at hl 0 rfl) ?_
  refine va_get (D := (dC, dI)) (ci := 7) (v := .int s_size) (C := RX7) (T := TX7) (N := 4) hx hb hts iX7_size_X7 hown hK hP 0 rfl rfl 3 (by decide) (hts _ mX7_size_f9) (fun _ h9 => h9) rfl dX7_size_1 ?_
  exact W.iret (v := s_size) hx hb hr (fun t ht hW => ⟨s_size, rfl, hf, ht⟩) (fun q h => by cases h) dX7_size_4
set_option maxHeartbeats 4000000 in
set_option maxRecDepth 100000 in
theorem metX7_dropLast {h0 r_cells : Nat} {s_most s_width s_size : Int32}  {sz : Nat} {k : Int32 → Prop} (hf : pX7_dropLast s_size k) : Met l yX7_dropLast wsX7_dropLast ({ frames := 0, cells := 0, slots := 0, locals := 0 } : Room) (va_Pc [.ref h0] (PR dC dI (TYS cI cL cB cZ cT cR) [(h0, .inr (7, [.int s_most, .int s_width, .ref r_cells, .int s_size]))] sz)) (va_Qv (fun (u : Int32) => k u) (fun (u : Int32) t => va_P (dC, dI) vwCl [(h0, .inr (7, [.int s_most, .int s_width, .ref r_cells, .int u]))] t.heap ∧ va_D (va_A [(h0, .inr (7, [.int s_most, .int s_width, .ref r_cells, .int s_size]))] sz) [(h0, .inr (7, [.int s_most, .int s_width, .ref r_cells, .int u]))]) (va_A [(h0, .inr (7, [.int s_most, .int s_width, .ref r_cells, .int s_size]))] sz)) 0 0 (va_A [(h0, .inr (7, [.int s_most, .int s_width, .ref r_cells, .int s_size]))] sz) := by
  refine Met.ofW (cc := cX7_dropLast) (maxL := 1) (ret := none) (by decide) rfl ?_
  intro p e s m args below meth c s₁ B hml hv
  obtain ⟨rfl, hsz, hP, hK, hN, hD0⟩ := hv
  have C : CX p s m _ meth c cX7_dropLast 1 wsX7_dropLast RX7 none := ⟨B.exec, B.bytes, hml, findClass_of_methodNamed B.named, atoms_spec (ws := wsX7_dropLast) B.pre, B.returns, B.notSynchronized⟩
  obtain ⟨hx, hb, -, hown, hts, hr, hlocks⟩ := id C
  subst hsz
  have hD := hD0.self (sz := s.heap.size)
  generalize hAe : va_A [(h0, .inr (7, [.int s_most, .int s_width, .ref r_cells, .int s_size]))] s.heap.size = A at hD ⊢
  have hA : ∀ q : Nat, s.heap.size ≤ q → A q := fun q h => by rw [← hAe]; exact Or.inr h
  have hS : va_S A s.heap s.heap [] := va_S.rf
  have hl := lv_entry ([.ref h0]) (n := 1) (Nat.le_of_ble_eq_true rfl)
  rw [lg_entry_eq]
  generalize (lg_sl ([.ref h0]) ++ List.replicate (1 - (lg_sl ([.ref h0])).length) Slot.unset).toArray = ls at hl ⊢
  have hl : lv_has ls 1 [(0, .ref h0)] := hl
  unfold pX7_dropLast at hf
  obtain ⟨H, hH⟩ : ∃ H, H = s.heap := ⟨_, rfl⟩
  obtain ⟨locs, hlo⟩ : ∃ L : List Loc, L = [] := ⟨_, rfl⟩
  have hS : va_S A s.heap H locs := by rw [hH, hlo]; exact hS
  rw [← hH] at hP
  have hG : W p l e ({ frames := 0, cells := 0, slots := 0, locals := 0 } : Room) s m [.ref h0].toArray below meth c H locs 0 0 (MQ below (va_Qv (fun (u : Int32) => k u) (fun (u : Int32) t => va_P (dC, dI) vwCl [(h0, .inr (7, [.int s_most, .int s_width, .ref r_cells, .int u]))] t.heap ∧ va_D A [(h0, .inr (7, [.int s_most, .int s_width, .ref r_cells, .int u]))]) A) [.ref h0].toArray s 0 0 A) (F0 m 0 ls []) := by
    clear hlo hH hD0
    refine lv_aload_n hx hb dX7_dropLast_0 rfl (lv_at hl 0 rfl) ?_
    refine va_get (D := (dC, dI)) (ci := 7) (v := .int s_size) (C := RX7) (T := TX7) (N := 4) hx hb hts iX7_dropLast_X7 hown hK hP 0 rfl rfl 3 (by decide) (hts _ mX7_dropLast_f9) (fun _ h9 => h9) rfl dX7_dropLast_1 ?_
    refine lv_if_le (tgt := 17) hx hb dX7_dropLast_4 (by decide) (fun c_1 => ?_) (fun c_1 => ?_)
    · replace hf := hf.1 c_1
      exact W.vret hx hb hr (fun t ht hW => ⟨⟨(s_size), rfl, hf, by rw [ht]; exact hP, hD⟩, hS.F ht⟩) hS.2.2 dX7_dropLast_17
    · replace hf := hf.2 c_1
      refine lv_aload_n hx hb dX7_dropLast_7 rfl (lv_at hl 0 rfl) ?_
      refine lv_dup hx hb dX7_dropLast_8 rfl ?_
      refine va_get (D := (dC, dI)) (ci := 7) (v := .int s_size) (C := RX7) (T := TX7) (N := 4) hx hb hts iX7_dropLast_X7 hown hK hP 0 rfl rfl 3 (by decide) (hts _ mX7_dropLast_f9) (fun _ h9 => h9) rfl dX7_dropLast_9 ?_
      refine lv_iconst (v := (1 : Int32)) hx hb dX7_dropLast_12 (by decide) ?_
      refine lv_isub hx hb dX7_dropLast_13 ?_
      refine va_put (D := (dC, dI)) (ci := 7) (v := .int (s_size - (1 : Int32))) (ty := .int) (C := RX7) (T := TX7) (N := 4) hx hb hts iX7_dropLast_X7 tyX7 tyX7_ok nmX7 hown hK hP hD hS 0 rfl rfl 3 (by decide) (hts _ mX7_dropLast_f9) (fun _ h9 => h9) rfl (by decide +kernel) rfl rfl (Nat.le_of_ble_eq_true rfl) dX7_dropLast_14 (fun H locs hP hD hS => ?_)
      replace hP : va_P (dC, dI) vwCl [(h0, .inr (7, [.int s_most, .int s_width, .ref r_cells, .int (s_size - (1 : Int32))]))] H := hP
      replace hD : va_D A [(h0, .inr (7, [.int s_most, .int s_width, .ref r_cells, .int (s_size - (1 : Int32))]))] := hD
      exact W.vret hx hb hr (fun t ht hW => ⟨⟨((s_size - (1 : Int32))), rfl, hf, by rw [ht]; exact hP, hD⟩, hS.F ht⟩) hS.2.2 dX7_dropLast_17
  rw [hH, hlo] at hG
  exact hG
set_option maxHeartbeats 4000000 in
set_option maxRecDepth 100000 in
theorem metX7_has {h0 r_cells : Nat} {s_most s_width s_size : Int32} {a1 : Int32} {k : Int32 → Prop} (hf : pX7_has s_size a1 k) : Met l yX7_has wsX7_has ({ frames := 0, cells := 0, slots := 0, locals := 0 } : Room) (va_Pc [.ref h0, .int a1] (PW dC dI (TYS cI cL cB cZ cT cR) [(h0, .inr (7, [.int s_most, .int s_width, .ref r_cells, .int s_size]))])) (roQi k) 0 0 (fun _ => False) := by
  refine Met.ofW (cc := cX7_has) (maxL := 2) (ret := (some .boolean)) (by decide) rfl ?_
  intro p e s m args below meth c s₁ B hml hv
  obtain ⟨rfl, hP, hK, hN⟩ := hv
  have C : CX p s m _ meth c cX7_has 2 wsX7_has RX7 (some .boolean) := ⟨B.exec, B.bytes, hml, findClass_of_methodNamed B.named, atoms_spec (ws := wsX7_has) B.pre, B.returns, B.notSynchronized⟩
  obtain ⟨hx, hb, -, hown, hts, hr, hlocks⟩ := id C
  have hl := lv_entry ([.ref h0, .int a1]) (n := 2) (Nat.le_of_ble_eq_true rfl)
  rw [lg_entry_eq]
  generalize (lg_sl ([.ref h0, .int a1]) ++ List.replicate (2 - (lg_sl ([.ref h0, .int a1])).length) Slot.unset).toArray = ls at hl ⊢
  have hl : lv_has ls 2 [(0, .ref h0), (1, .int a1)] := hl
  unfold pX7_has at hf
  refine lv_iload_n hx hb dX7_has_0 rfl (lv_at hl 1 rfl) ?_
  refine lv_if_lt (tgt := 16) hx hb dX7_has_1 (by decide) (fun c_1 => ?_) (fun c_1 => ?_)
  · replace hf := hf.1 c_1
    refine lv_iconst (v := (0 : Int32)) hx hb dX7_has_16 (by decide) ?_
    exact W.zret (v := (0 : Int32)) hx hb hr rfl (fun t ht hW => ⟨(0 : Int32), rfl, hf, ht⟩) (fun q h => by cases h) dX7_has_17
  · replace hf := hf.2 c_1
    refine lv_iload_n hx hb dX7_has_4 rfl (lv_at hl 1 rfl) ?_
    refine lv_aload_n hx hb dX7_has_5 rfl (lv_at hl 0 rfl) ?_
    refine va_get (D := (dC, dI)) (ci := 7) (v := .int s_size) (C := RX7) (T := TX7) (N := 4) hx hb hts iX7_has_X7 hown hK hP 0 rfl rfl 3 (by decide) (hts _ mX7_has_f9) (fun _ h9 => h9) rfl dX7_has_6 ?_
    refine lv_icmp_ge (tgt := 16) hx hb dX7_has_9 (by decide) (fun c_2 => ?_) (fun c_2 => ?_)
    · replace hf := hf.1 c_2
      refine lv_iconst (v := (0 : Int32)) hx hb dX7_has_16 (by decide) ?_
      exact W.zret (v := (0 : Int32)) hx hb hr rfl (fun t ht hW => ⟨(0 : Int32), rfl, hf, ht⟩) (fun q h => by cases h) dX7_has_17
    · replace hf := hf.2 c_2
      refine lv_iconst (v := (1 : Int32)) hx hb dX7_has_12 (by decide) ?_
      refine lv_goto (tgt := 17) hx hb dX7_has_13 (by decide) ?_
      exact W.zret (v := (1 : Int32)) hx hb hr rfl (fun t ht hW => ⟨(1 : Int32), rfl, hf, ht⟩) (fun q h => by cases h) dX7_has_17
set_option maxHeartbeats 4000000 in
set_option maxRecDepth 100000 in
theorem metX7_dropAll {h0 r_cells : Nat} {s_most s_width s_size : Int32}  {sz : Nat} {k : Int32 → Prop} (hf : pX7_dropAll s_size k) : Met l yX7_dropAll wsX7_dropAll ({ frames := 0, cells := 0, slots := 0, locals := 0 } : Room) (va_Pc [.ref h0] (PR dC dI (TYS cI cL cB cZ cT cR) [(h0, .inr (7, [.int s_most, .int s_width, .ref r_cells, .int s_size]))] sz)) (va_Qv (fun (u : Int32) => k u) (fun (u : Int32) t => va_P (dC, dI) vwCl [(h0, .inr (7, [.int s_most, .int s_width, .ref r_cells, .int u]))] t.heap ∧ va_D (va_A [(h0, .inr (7, [.int s_most, .int s_width, .ref r_cells, .int s_size]))] sz) [(h0, .inr (7, [.int s_most, .int s_width, .ref r_cells, .int u]))]) (va_A [(h0, .inr (7, [.int s_most, .int s_width, .ref r_cells, .int s_size]))] sz)) 0 0 (va_A [(h0, .inr (7, [.int s_most, .int s_width, .ref r_cells, .int s_size]))] sz) := by
  refine Met.ofW (cc := cX7_dropAll) (maxL := 1) (ret := none) (by decide) rfl ?_
  intro p e s m args below meth c s₁ B hml hv
  obtain ⟨rfl, hsz, hP, hK, hN, hD0⟩ := hv
  have C : CX p s m _ meth c cX7_dropAll 1 wsX7_dropAll RX7 none := ⟨B.exec, B.bytes, hml, findClass_of_methodNamed B.named, atoms_spec (ws := wsX7_dropAll) B.pre, B.returns, B.notSynchronized⟩
  obtain ⟨hx, hb, -, hown, hts, hr, hlocks⟩ := id C
  subst hsz
  have hD := hD0.self (sz := s.heap.size)
  generalize hAe : va_A [(h0, .inr (7, [.int s_most, .int s_width, .ref r_cells, .int s_size]))] s.heap.size = A at hD ⊢
  have hA : ∀ q : Nat, s.heap.size ≤ q → A q := fun q h => by rw [← hAe]; exact Or.inr h
  have hS : va_S A s.heap s.heap [] := va_S.rf
  have hl := lv_entry ([.ref h0]) (n := 1) (Nat.le_of_ble_eq_true rfl)
  rw [lg_entry_eq]
  generalize (lg_sl ([.ref h0]) ++ List.replicate (1 - (lg_sl ([.ref h0])).length) Slot.unset).toArray = ls at hl ⊢
  have hl : lv_has ls 1 [(0, .ref h0)] := hl
  unfold pX7_dropAll at hf
  obtain ⟨H, hH⟩ : ∃ H, H = s.heap := ⟨_, rfl⟩
  obtain ⟨locs, hlo⟩ : ∃ L : List Loc, L = [] := ⟨_, rfl⟩
  have hS : va_S A s.heap H locs := by rw [hH, hlo]; exact hS
  rw [← hH] at hP
  have hG : W p l e ({ frames := 0, cells := 0, slots := 0, locals := 0 } : Room) s m [.ref h0].toArray below meth c H locs 0 0 (MQ below (va_Qv (fun (u : Int32) => k u) (fun (u : Int32) t => va_P (dC, dI) vwCl [(h0, .inr (7, [.int s_most, .int s_width, .ref r_cells, .int u]))] t.heap ∧ va_D A [(h0, .inr (7, [.int s_most, .int s_width, .ref r_cells, .int u]))]) A) [.ref h0].toArray s 0 0 A) (F0 m 0 ls []) := by
    clear hlo hH hD0
    refine lv_aload_n hx hb dX7_dropAll_0 rfl (lv_at hl 0 rfl) ?_
    refine lv_iconst (v := (0 : Int32)) hx hb dX7_dropAll_1 (by decide) ?_
    refine va_put (D := (dC, dI)) (ci := 7) (v := .int (0 : Int32)) (ty := .int) (C := RX7) (T := TX7) (N := 4) hx hb hts iX7_dropAll_X7 tyX7 tyX7_ok nmX7 hown hK hP hD hS 0 rfl rfl 3 (by decide) (hts _ mX7_dropAll_f9) (fun _ h9 => h9) rfl (by decide +kernel) rfl rfl (Nat.le_of_ble_eq_true rfl) dX7_dropAll_2 (fun H locs hP hD hS => ?_)
    replace hP : va_P (dC, dI) vwCl [(h0, .inr (7, [.int s_most, .int s_width, .ref r_cells, .int (0 : Int32)]))] H := hP
    replace hD : va_D A [(h0, .inr (7, [.int s_most, .int s_width, .ref r_cells, .int (0 : Int32)]))] := hD
    exact W.vret hx hb hr (fun t ht hW => ⟨⟨((0 : Int32)), rfl, hf, by rw [ht]; exact hP, hD⟩, hS.F ht⟩) hS.2.2 dX7_dropAll_5
  rw [hH, hlo] at hG
  exact hG
set_option maxHeartbeats 4000000 in
set_option maxRecDepth 100000 in
theorem wX7_become_17 {p : Program} {e : Env} {s : State} {m : MethodId} {args : Array Value} {below : List Frame} {meth : Method} {c : Code} (C : CX p s m args meth c cX7_become 3 wsX7_become RX7 none) (hK : va_K (dC, dI) vwCl (TYS cI cL cB cZ cT cR) s) (hN : NW s) {A : Nat → Prop} (hA : ∀ q : Nat, s.heap.size ≤ q → A q) {h0 h1 n_cells h2 h3 n1_cells : Nat} {s_most s_width s1_most s1_width s1_size : Int32} {s1_cells : Nat → Int32} {k : Int32 → (Nat → Int32) → Prop} {kx : Int32 → (Nat → Int32) → Prop} (hkx : ∀ (s_size : Int32) (s_cells : Nat → Int32) (H : Heap) (locs : List Loc) (ls : Array Slot), va_P (dC, dI) vwCl [(h0, .inr (7, [.int s_most, .int s_width, .ref h1, .int s_size])), (h1, .inl (cI, n_cells, .inl s_cells)), (h2, .inr (7, [.int s1_most, .int s1_width, .ref h3, .int s1_size])), (h3, .inl (cI, n1_cells, .inl s1_cells))] H → va_D A [(h0, .inr (7, [.int s_most, .int s_width, .ref h1, .int s_size])), (h1, .inl (cI, n_cells, .inl s_cells)), (h2, .inr (7, [.int s1_most, .int s1_width, .ref h3, .int s1_size])), (h3, .inl (cI, n1_cells, .inl s1_cells))] → va_S A s.heap H locs → lv_has ls 3 [(0, .ref h0), (1, .ref h2)] → kx s_size s_cells → W p l e ({ frames := 1, cells := 0, slots := 0, locals := 24 } : Room) s m args below meth c H locs 0 0 (MQ below (va_Qv (fun (u : Int32 × (Nat → Int32)) => k u.1 u.2) (fun (u : Int32 × (Nat → Int32)) t => va_P (dC, dI) vwCl [(h0, .inr (7, [.int s_most, .int s_width, .ref h1, .int u.1])), (h1, .inl (cI, n_cells, .inl u.2)), (h2, .inr (7, [.int s1_most, .int s1_width, .ref h3, .int s1_size])), (h3, .inl (cI, n1_cells, .inl s1_cells))] t.heap ∧ va_D A [(h0, .inr (7, [.int s_most, .int s_width, .ref h1, .int u.1])), (h1, .inl (cI, n_cells, .inl u.2)), (h2, .inr (7, [.int s1_most, .int s1_width, .ref h3, .int s1_size])), (h3, .inl (cI, n1_cells, .inl s1_cells))]) A) args s 0 0 A) (F0 m 53 ls [])) : ∀ (n17 : Nat), ∀ (x2 : Int32) (s_size : Int32) (s_cells : Nat → Int32) (H : Heap) (locs : List Loc) (ls : Array Slot), va_P (dC, dI) vwCl [(h0, .inr (7, [.int s_most, .int s_width, .ref h1, .int s_size])), (h1, .inl (cI, n_cells, .inl s_cells)), (h2, .inr (7, [.int s1_most, .int s1_width, .ref h3, .int s1_size])), (h3, .inl (cI, n1_cells, .inl s1_cells))] H → va_D A [(h0, .inr (7, [.int s_most, .int s_width, .ref h1, .int s_size])), (h1, .inl (cI, n_cells, .inl s_cells)), (h2, .inr (7, [.int s1_most, .int s1_width, .ref h3, .int s1_size])), (h3, .inl (cI, n1_cells, .inl s1_cells))] → va_S A s.heap H locs → lv_has ls 3 [(0, .ref h0), (1, .ref h2), (2, .int x2)] → pX7_become_17 n_cells n1_cells s1_cells kx n17 x2 s_size s_cells → W p l e ({ frames := 1, cells := 0, slots := 0, locals := 24 } : Room) s m args below meth c H locs 0 0 (MQ below (va_Qv (fun (u : Int32 × (Nat → Int32)) => k u.1 u.2) (fun (u : Int32 × (Nat → Int32)) t => va_P (dC, dI) vwCl [(h0, .inr (7, [.int s_most, .int s_width, .ref h1, .int u.1])), (h1, .inl (cI, n_cells, .inl u.2)), (h2, .inr (7, [.int s1_most, .int s1_width, .ref h3, .int s1_size])), (h3, .inl (cI, n1_cells, .inl s1_cells))] t.heap ∧ va_D A [(h0, .inr (7, [.int s_most, .int s_width, .ref h1, .int u.1])), (h1, .inl (cI, n_cells, .inl u.2)), (h2, .inr (7, [.int s1_most, .int s1_width, .ref h3, .int s1_size])), (h3, .inl (cI, n1_cells, .inl s1_cells))]) A) args s 0 0 A) (F0 m 17 ls []) := by
  obtain ⟨hx, hb, hml, hown, hts, hr, hlocks⟩ := id C
  intro n17
  induction n17 with
  | zero =>
    intro x2 s_size s_cells H locs ls hP hD hS hl hf
    rw [pX7_become_17] at hf
    exact hf.elim
  | succ n17 ih =>
    intro x2 s_size s_cells H locs ls hP hD hS hl hf
    rw [pX7_become_17] at hf
    refine lv_iload_n hx hb dX7_become_17 rfl (lv_at hl 2 rfl) ?_
    refine lv_aload_n hx hb dX7_become_18 rfl (lv_at hl 0 rfl) ?_
    refine va_get (D := (dC, dI)) (ci := 7) (v := .ref h1) (C := RX7) (T := TX7) (N := 4) hx hb hts iX7_become_X7 hown hK hP 0 rfl rfl 2 (by decide) (hts _ mX7_become_f27) (fun _ h9 => h9) rfl dX7_become_19 ?_
    refine va_alen (v := (nI n_cells)) hx hb hK hP 1 0 rfl rfl rfl dX7_become_22 ?_
    refine lv_icmp_ge (tgt := 53) hx hb dX7_become_23 (by decide) (fun c_1 => ?_) (fun c_1 => ?_)
    · replace hf := hf.1 c_1
      exact hkx s_size s_cells H locs ls hP hD hS (lv_sub hl [0, 1] rfl) hf
    · replace hf := hf.2 c_1
      refine lv_iload_n hx hb dX7_become_26 rfl (lv_at hl 2 rfl) ?_
      refine lv_aload_n hx hb dX7_become_27 rfl (lv_at hl 1 rfl) ?_
      refine va_get (D := (dC, dI)) (ci := 7) (v := .ref h3) (C := RX7) (T := TX7) (N := 4) hx hb hts iX7_become_X7 hown hK hP 2 rfl rfl 2 (by decide) (hts _ mX7_become_f27) (fun _ h9 => h9) rfl dX7_become_28 ?_
      refine va_alen (v := (nI n1_cells)) hx hb hK hP 3 0 rfl rfl rfl dX7_become_31 ?_
      refine lv_icmp_ge (tgt := 53) hx hb dX7_become_32 (by decide) (fun c_2 => ?_) (fun c_2 => ?_)
      · replace hf := hf.1 c_2
        exact hkx s_size s_cells H locs ls hP hD hS (lv_sub hl [0, 1] rfl) hf
      · replace hf := hf.2 c_2
        refine lv_aload_n hx hb dX7_become_35 rfl (lv_at hl 0 rfl) ?_
        refine va_get (D := (dC, dI)) (ci := 7) (v := .ref h1) (C := RX7) (T := TX7) (N := 4) hx hb hts iX7_become_X7 hown hK hP 0 rfl rfl 2 (by decide) (hts _ mX7_become_f27) (fun _ h9 => h9) rfl dX7_become_36 ?_
        refine lv_iload_n hx hb dX7_become_39 rfl (lv_at hl 2 rfl) ?_
        refine lv_aload_n hx hb dX7_become_40 rfl (lv_at hl 1 rfl) ?_
        refine va_get (D := (dC, dI)) (ci := 7) (v := .ref h3) (C := RX7) (T := TX7) (N := 4) hx hb hts iX7_become_X7 hown hK hP 2 rfl rfl 2 (by decide) (hts _ mX7_become_f27) (fun _ h9 => h9) rfl dX7_become_41 ?_
        refine lv_iload_n hx hb dX7_become_44 rfl (lv_at hl 2 rfl) ?_
        obtain ⟨h_3, hf⟩ := hf
        refine va_iald hx hb hK hP 3 0 rfl rfl h_3 dX7_become_45 ?_
        obtain ⟨h_4, hf⟩ := hf
        refine va_iast hx hb hK hP hD hS 1 0 rfl rfl h_4 dX7_become_46 (fun H locs hP hD hS => ?_)
        replace hP : va_P (dC, dI) vwCl [(h0, .inr (7, [.int s_most, .int s_width, .ref h1, .int s_size])), (h1, .inl (cI, n_cells, .inl (upd s_cells x2.toNatClampNeg (s1_cells x2.toNatClampNeg)))), (h2, .inr (7, [.int s1_most, .int s1_width, .ref h3, .int s1_size])), (h3, .inl (cI, n1_cells, .inl s1_cells))] H := hP
        replace hD : va_D A [(h0, .inr (7, [.int s_most, .int s_width, .ref h1, .int s_size])), (h1, .inl (cI, n_cells, .inl (upd s_cells x2.toNatClampNeg (s1_cells x2.toNatClampNeg)))), (h2, .inr (7, [.int s1_most, .int s1_width, .ref h3, .int s1_size])), (h3, .inl (cI, n1_cells, .inl s1_cells))] := hD
        refine lv_iinc (v := (x2 + 1)) (lv' := [(2, .int (x2 + 1)), (0, .ref h0), (1, .ref h2)]) hx hb dX7_become_47 hl (k := 2) rfl (by rfl) (by decide) rfl (fun ls hl => ?_)
        refine lv_goto (tgt := 17) hx hb dX7_become_50 (by decide) ?_
        exact ih (x2 + 1) s_size (upd s_cells x2.toNatClampNeg (s1_cells x2.toNatClampNeg)) H locs ls hP hD hS (lv_sub hl [1, 2, 0] rfl) hf
set_option maxHeartbeats 4000000 in
set_option maxRecDepth 100000 in
theorem metX7_become {h0 h1 n_cells h2 h3 n1_cells : Nat} {s_most s_width s_size s1_most s1_width s1_size : Int32} {s_cells s1_cells : Nat → Int32}  {sz : Nat} {k : Int32 → (Nat → Int32) → Prop} (hf : pX7_become n_cells n1_cells s_most s_size s_cells s1_size s1_cells k) : Met l yX7_become wsX7_become ({ frames := 1, cells := 0, slots := 0, locals := 24 } : Room) (va_Pc [.ref h0, .ref h2] (PR dC dI (TYS cI cL cB cZ cT cR) [(h0, .inr (7, [.int s_most, .int s_width, .ref h1, .int s_size])), (h1, .inl (cI, n_cells, .inl s_cells)), (h2, .inr (7, [.int s1_most, .int s1_width, .ref h3, .int s1_size])), (h3, .inl (cI, n1_cells, .inl s1_cells))] sz)) (va_Qv (fun (u : Int32 × (Nat → Int32)) => k u.1 u.2) (fun (u : Int32 × (Nat → Int32)) t => va_P (dC, dI) vwCl [(h0, .inr (7, [.int s_most, .int s_width, .ref h1, .int u.1])), (h1, .inl (cI, n_cells, .inl u.2)), (h2, .inr (7, [.int s1_most, .int s1_width, .ref h3, .int s1_size])), (h3, .inl (cI, n1_cells, .inl s1_cells))] t.heap ∧ va_D (va_A [(h0, .inr (7, [.int s_most, .int s_width, .ref h1, .int s_size])), (h1, .inl (cI, n_cells, .inl s_cells)), (h2, .inr (7, [.int s1_most, .int s1_width, .ref h3, .int s1_size])), (h3, .inl (cI, n1_cells, .inl s1_cells))] sz) [(h0, .inr (7, [.int s_most, .int s_width, .ref h1, .int u.1])), (h1, .inl (cI, n_cells, .inl u.2)), (h2, .inr (7, [.int s1_most, .int s1_width, .ref h3, .int s1_size])), (h3, .inl (cI, n1_cells, .inl s1_cells))]) (va_A [(h0, .inr (7, [.int s_most, .int s_width, .ref h1, .int s_size])), (h1, .inl (cI, n_cells, .inl s_cells)), (h2, .inr (7, [.int s1_most, .int s1_width, .ref h3, .int s1_size])), (h3, .inl (cI, n1_cells, .inl s1_cells))] sz)) 0 0 (va_A [(h0, .inr (7, [.int s_most, .int s_width, .ref h1, .int s_size])), (h1, .inl (cI, n_cells, .inl s_cells)), (h2, .inr (7, [.int s1_most, .int s1_width, .ref h3, .int s1_size])), (h3, .inl (cI, n1_cells, .inl s1_cells))] sz) := by
  refine Met.ofW (cc := cX7_become) (maxL := 3) (ret := none) (by decide) rfl ?_
  intro p e s m args below meth c s₁ B hml hv
  obtain ⟨rfl, hsz, hP, hK, hN, hD0⟩ := hv
  have C : CX p s m _ meth c cX7_become 3 wsX7_become RX7 none := ⟨B.exec, B.bytes, hml, findClass_of_methodNamed B.named, atoms_spec (ws := wsX7_become) B.pre, B.returns, B.notSynchronized⟩
  obtain ⟨hx, hb, -, hown, hts, hr, hlocks⟩ := id C
  subst hsz
  have hD := hD0.self (sz := s.heap.size)
  generalize hAe : va_A [(h0, .inr (7, [.int s_most, .int s_width, .ref h1, .int s_size])), (h1, .inl (cI, n_cells, .inl s_cells)), (h2, .inr (7, [.int s1_most, .int s1_width, .ref h3, .int s1_size])), (h3, .inl (cI, n1_cells, .inl s1_cells))] s.heap.size = A at hD ⊢
  have hA : ∀ q : Nat, s.heap.size ≤ q → A q := fun q h => by rw [← hAe]; exact Or.inr h
  have hS : va_S A s.heap s.heap [] := va_S.rf
  have hl := lv_entry ([.ref h0, .ref h2]) (n := 3) (Nat.le_of_ble_eq_true rfl)
  rw [lg_entry_eq]
  generalize (lg_sl ([.ref h0, .ref h2]) ++ List.replicate (3 - (lg_sl ([.ref h0, .ref h2])).length) Slot.unset).toArray = ls at hl ⊢
  have hl : lv_has ls 3 [(0, .ref h0), (1, .ref h2)] := hl
  unfold pX7_become at hf
  obtain ⟨H, hH⟩ : ∃ H, H = s.heap := ⟨_, rfl⟩
  obtain ⟨locs, hlo⟩ : ∃ L : List Loc, L = [] := ⟨_, rfl⟩
  have hS : va_S A s.heap H locs := by rw [hH, hlo]; exact hS
  rw [← hH] at hP
  have hG : W p l e ({ frames := 1, cells := 0, slots := 0, locals := 24 } : Room) s m [.ref h0, .ref h2].toArray below meth c H locs 0 0 (MQ below (va_Qv (fun (u : Int32 × (Nat → Int32)) => k u.1 u.2) (fun (u : Int32 × (Nat → Int32)) t => va_P (dC, dI) vwCl [(h0, .inr (7, [.int s_most, .int s_width, .ref h1, .int u.1])), (h1, .inl (cI, n_cells, .inl u.2)), (h2, .inr (7, [.int s1_most, .int s1_width, .ref h3, .int s1_size])), (h3, .inl (cI, n1_cells, .inl s1_cells))] t.heap ∧ va_D A [(h0, .inr (7, [.int s_most, .int s_width, .ref h1, .int u.1])), (h1, .inl (cI, n_cells, .inl u.2)), (h2, .inr (7, [.int s1_most, .int s1_width, .ref h3, .int s1_size])), (h3, .inl (cI, n1_cells, .inl s1_cells))]) A) [.ref h0, .ref h2].toArray s 0 0 A) (F0 m 0 ls []) := by
    clear hlo hH hD0
    refine lv_aload_n hx hb dX7_become_0 rfl (lv_at hl 0 rfl) ?_
    refine lv_aload_n hx hb dX7_become_1 rfl (lv_at hl 1 rfl) ?_
    refine va_get (D := (dC, dI)) (ci := 7) (v := .int s1_size) (C := RX7) (T := TX7) (N := 4) hx hb hts iX7_become_X7 hown hK hP 2 rfl rfl 3 (by decide) (hts _ mX7_become_f9) (fun _ h9 => h9) rfl dX7_become_2 ?_
    refine lv_aload_n hx hb dX7_become_5 rfl (lv_at hl 0 rfl) ?_
    refine va_get (D := (dC, dI)) (ci := 7) (v := .int s_most) (C := RX7) (T := TX7) (N := 4) hx hb hts iX7_become_X7 hown hK hP 0 rfl rfl 0 (by decide) (hts _ mX7_become_f21) (fun _ h9 => h9) rfl dX7_become_6 ?_
    refine va_mmin hx hb (hml.trans hl.1.symm) hown (hts _ mX7_become_c38) (hts _ mX7_become_smin) (hts _ mX7_become_iMath) (hts _ mX7_become_kmin) (Nat.le_of_ble_eq_true rfl) (Nat.le_of_ble_eq_true rfl) (Nat.zero_le _) (Nat.zero_le _) dX7_become_9 ?_
    refine W.eq (g2 := F0 m 12 ls [.int (mmin s1_size s_most), .ref h0]) rfl ?_
    refine va_put (D := (dC, dI)) (ci := 7) (v := .int (mmin s1_size s_most)) (ty := .int) (C := RX7) (T := TX7) (N := 4) hx hb hts iX7_become_X7 tyX7 tyX7_ok nmX7 hown hK hP hD hS 0 rfl rfl 3 (by decide) (hts _ mX7_become_f9) (fun _ h9 => h9) rfl (by decide +kernel) rfl rfl (Nat.le_of_ble_eq_true rfl) dX7_become_12 (fun H locs hP hD hS => ?_)
    replace hP : va_P (dC, dI) vwCl [(h0, .inr (7, [.int s_most, .int s_width, .ref h1, .int (mmin s1_size s_most)])), (h1, .inl (cI, n_cells, .inl s_cells)), (h2, .inr (7, [.int s1_most, .int s1_width, .ref h3, .int s1_size])), (h3, .inl (cI, n1_cells, .inl s1_cells))] H := hP
    replace hD : va_D A [(h0, .inr (7, [.int s_most, .int s_width, .ref h1, .int (mmin s1_size s_most)])), (h1, .inl (cI, n_cells, .inl s_cells)), (h2, .inr (7, [.int s1_most, .int s1_width, .ref h3, .int s1_size])), (h3, .inl (cI, n1_cells, .inl s1_cells))] := hD
    refine lv_iconst (v := (0 : Int32)) hx hb dX7_become_15 (by decide) ?_
    refine lv_istore_n (lv' := [(2, .int (0 : Int32)), (0, .ref h0), (1, .ref h2)]) hx hb dX7_become_16 rfl hl (by decide) rfl (fun ls hl => ?_)
    obtain ⟨n17, hf⟩ := hf
    refine wX7_become_17 C hK hN hA (fun s_size_5 s_cells_5 H locs ls hP hD hS hl hf => ?_) n17 (0 : Int32) (mmin s1_size s_most) s_cells H locs ls hP hD hS (lv_sub hl [1, 2, 0] rfl) hf
    exact W.vret hx hb hr (fun t ht hW => ⟨⟨(s_size_5, s_cells_5), rfl, hf, by rw [ht]; exact hP, hD⟩, hS.F ht⟩) hS.2.2 dX7_become_53
  rw [hH, hlo] at hG
  exact hG
set_option maxHeartbeats 4000000 in
set_option maxRecDepth 100000 in
theorem metX11_stand {a0 : Int32} {a1 : Int32} {k : Int32 → Prop} (hf : pX11_stand a0 a1 k) : Met l yX11_stand wsX11_stand ({ frames := 0, cells := 0, slots := 0, locals := 0 } : Room) (va_Pc [.int a0, .int a1] (PW dC dI (TYS cI cL cB cZ cT cR) [])) (roQi k) 0 0 (fun _ => False) := by
  refine Met.ofW (cc := cX11_stand) (maxL := 2) (ret := (some .int)) (by decide) rfl ?_
  intro p e s m args below meth c s₁ B hml hv
  obtain ⟨rfl, hP, hK, hN⟩ := hv
  have C : CX p s m _ meth c cX11_stand 2 wsX11_stand RX11 (some .int) := ⟨B.exec, B.bytes, hml, findClass_of_methodNamed B.named, atoms_spec (ws := wsX11_stand) B.pre, B.returns, B.notSynchronized⟩
  obtain ⟨hx, hb, -, hown, hts, hr, hlocks⟩ := id C
  have hl := lv_entry ([.int a0, .int a1]) (n := 2) (Nat.le_of_ble_eq_true rfl)
  rw [lg_entry_eq]
  generalize (lg_sl ([.int a0, .int a1]) ++ List.replicate (2 - (lg_sl ([.int a0, .int a1])).length) Slot.unset).toArray = ls at hl ⊢
  have hl : lv_has ls 2 [(0, .int a0), (1, .int a1)] := hl
  unfold pX11_stand at hf
  refine lv_iload_n hx hb dX11_stand_0 rfl (lv_at hl 0 rfl) ?_
  refine lv_iconst (v := (4 : Int32)) hx hb dX11_stand_1 (by decide) ?_
  refine lv_imul hx hb dX11_stand_2 ?_
  refine lv_iload_n hx hb dX11_stand_3 rfl (lv_at hl 1 rfl) ?_
  refine lv_iadd hx hb dX11_stand_4 ?_
  refine lv_bipush (v := (-2 : Int32)) hx hb dX11_stand_5 (by decide) ?_
  refine lv_isub hx hb dX11_stand_7 ?_
  exact W.iret (v := (((a0 * (4 : Int32)) + a1) - (-2 : Int32))) hx hb hr (fun t ht hW => ⟨(((a0 * (4 : Int32)) + a1) - (-2 : Int32)), rfl, hf, ht⟩) (fun q h => by cases h) dX11_stand_8
set_option maxHeartbeats 4000000 in
set_option maxRecDepth 100000 in
theorem metX11_highOf {a0 : Int32} {k : Int32 → Prop} (hf : pX11_highOf a0 k) : Met l yX11_highOf wsX11_highOf ({ frames := 0, cells := 0, slots := 0, locals := 0 } : Room) (va_Pc [.int a0] (PW dC dI (TYS cI cL cB cZ cT cR) [])) (roQi k) 0 0 (fun _ => False) := by
  refine Met.ofW (cc := cX11_highOf) (maxL := 1) (ret := (some .int)) (by decide) rfl ?_
  intro p e s m args below meth c s₁ B hml hv
  obtain ⟨rfl, hP, hK, hN⟩ := hv
  have C : CX p s m _ meth c cX11_highOf 1 wsX11_highOf RX11 (some .int) := ⟨B.exec, B.bytes, hml, findClass_of_methodNamed B.named, atoms_spec (ws := wsX11_highOf) B.pre, B.returns, B.notSynchronized⟩
  obtain ⟨hx, hb, -, hown, hts, hr, hlocks⟩ := id C
  have hl := lv_entry ([.int a0]) (n := 1) (Nat.le_of_ble_eq_true rfl)
  rw [lg_entry_eq]
  generalize (lg_sl ([.int a0]) ++ List.replicate (1 - (lg_sl ([.int a0])).length) Slot.unset).toArray = ls at hl ⊢
  have hl : lv_has ls 1 [(0, .int a0)] := hl
  unfold pX11_highOf at hf
  refine lv_iload_n hx hb dX11_highOf_0 rfl (lv_at hl 0 rfl) ?_
  refine lv_iconst (v := (4 : Int32)) hx hb dX11_highOf_1 (by decide) ?_
  refine lv_idiv hx hb dX11_highOf_2 (by decide) ?_
  exact W.iret (v := (a0 / (4 : Int32))) hx hb hr (fun t ht hW => ⟨(a0 / (4 : Int32)), rfl, hf, ht⟩) (fun q h => by cases h) dX11_highOf_3
set_option maxHeartbeats 4000000 in
set_option maxRecDepth 100000 in
theorem metX11_didOf {a0 : Int32} {k : Int32 → Prop} (hf : pX11_didOf a0 k) : Met l yX11_didOf wsX11_didOf ({ frames := 0, cells := 0, slots := 0, locals := 0 } : Room) (va_Pc [.int a0] (PW dC dI (TYS cI cL cB cZ cT cR) [])) (roQi k) 0 0 (fun _ => False) := by
  refine Met.ofW (cc := cX11_didOf) (maxL := 1) (ret := (some .int)) (by decide) rfl ?_
  intro p e s m args below meth c s₁ B hml hv
  obtain ⟨rfl, hP, hK, hN⟩ := hv
  have C : CX p s m _ meth c cX11_didOf 1 wsX11_didOf RX11 (some .int) := ⟨B.exec, B.bytes, hml, findClass_of_methodNamed B.named, atoms_spec (ws := wsX11_didOf) B.pre, B.returns, B.notSynchronized⟩
  obtain ⟨hx, hb, -, hown, hts, hr, hlocks⟩ := id C
  have hl := lv_entry ([.int a0]) (n := 1) (Nat.le_of_ble_eq_true rfl)
  rw [lg_entry_eq]
  generalize (lg_sl ([.int a0]) ++ List.replicate (1 - (lg_sl ([.int a0])).length) Slot.unset).toArray = ls at hl ⊢
  have hl : lv_has ls 1 [(0, .int a0)] := hl
  unfold pX11_didOf at hf
  refine lv_iload_n hx hb dX11_didOf_0 rfl (lv_at hl 0 rfl) ?_
  refine lv_iconst (v := (4 : Int32)) hx hb dX11_didOf_1 (by decide) ?_
  refine lv_irem hx hb dX11_didOf_2 (by decide) ?_
  refine lv_bipush (v := (-2 : Int32)) hx hb dX11_didOf_3 (by decide) ?_
  refine lv_iadd hx hb dX11_didOf_5 ?_
  exact W.iret (v := ((a0 - a0 / (4 : Int32) * (4 : Int32)) + (-2 : Int32))) hx hb hr (fun t ht hW => ⟨((a0 - a0 / (4 : Int32) * (4 : Int32)) + (-2 : Int32)), rfl, hf, ht⟩) (fun q h => by cases h) dX11_didOf_6
set_option maxHeartbeats 4000000 in
set_option maxRecDepth 100000 in
theorem wJ7_fill_d0a16_6 {p : Program} {e : Env} {s : State} {m : MethodId} {args : Array Value} {below : List Frame} {meth : Method} {c : Code} (C : CX p s m args meth c cJ7_fill_d0a16 5 wsJ7_fill_d0a16 RJ7 none) (hK : va_K (dC, dI) vwCl (TYS cI cL cB cZ cT cR) s) (hN : NW s) {A : Nat → Prop} (hA : ∀ q : Nat, s.heap.size ≤ q → A q) {h0 n_ : Nat} {k : (Nat → Int64) → Prop} {kx : (Nat → Int64) → Prop} (hkx : ∀ (s_ : Nat → Int64) (H : Heap) (locs : List Loc) (ls : Array Slot), va_P (dC, dI) vwCl [(h0, .inl (cL, n_, .inr (.inl s_)))] H → va_D A [(h0, .inl (cL, n_, .inr (.inl s_)))] → va_S A s.heap H locs → lv_has ls 5 [(0, .ref h0)] → kx s_ → W p l e ({ frames := 0, cells := 0, slots := 0, locals := 0 } : Room) s m args below meth c H locs 0 0 (MQ below (va_Qv (fun (u : (Nat → Int64)) => k u) (fun (u : (Nat → Int64)) t => va_P (dC, dI) vwCl [(h0, .inl (cL, n_, .inr (.inl u)))] t.heap ∧ va_D A [(h0, .inl (cL, n_, .inr (.inl u)))]) A) args s 0 0 A) (F0 m 22 ls [])) : ∀ (n6 : Nat), ∀ (x1 : Int64) (x3 : Int32) (x4 : Int32) (s_ : Nat → Int64) (H : Heap) (locs : List Loc) (ls : Array Slot), va_P (dC, dI) vwCl [(h0, .inl (cL, n_, .inr (.inl s_)))] H → va_D A [(h0, .inl (cL, n_, .inr (.inl s_)))] → va_S A s.heap H locs → lv_has ls 5 [(0, .ref h0), (1, .long x1), (3, .int x3), (4, .int x4)] → pJ7_fill_d0a16_6 n_ kx n6 x1 x3 x4 s_ → W p l e ({ frames := 0, cells := 0, slots := 0, locals := 0 } : Room) s m args below meth c H locs 0 0 (MQ below (va_Qv (fun (u : (Nat → Int64)) => k u) (fun (u : (Nat → Int64)) t => va_P (dC, dI) vwCl [(h0, .inl (cL, n_, .inr (.inl u)))] t.heap ∧ va_D A [(h0, .inl (cL, n_, .inr (.inl u)))]) A) args s 0 0 A) (F0 m 6 ls []) := by
  obtain ⟨hx, hb, hml, hown, hts, hr, hlocks⟩ := id C
  intro n6
  induction n6 with
  | zero =>
    intro x1 x3 x4 s_ H locs ls hP hD hS hl hf
    rw [pJ7_fill_d0a16_6] at hf
    exact hf.elim
  | succ n6 ih =>
    intro x1 x3 x4 s_ H locs ls hP hD hS hl hf
    rw [pJ7_fill_d0a16_6] at hf
    refine lv_iload_n hx hb dJ7_fill_d0a16_6 rfl (lv_at hl 2 rfl) ?_
    refine lv_iload hx hb dJ7_fill_d0a16_7 (lv_at hl 3 rfl) ?_
    refine lv_icmp_ge (tgt := 22) hx hb dJ7_fill_d0a16_9 (by decide) (fun c_1 => ?_) (fun c_1 => ?_)
    · replace hf := hf.1 c_1
      exact hkx s_ H locs ls hP hD hS (lv_sub hl [0] rfl) hf
    · replace hf := hf.2 c_1
      refine lv_aload_n hx hb dJ7_fill_d0a16_12 rfl (lv_at hl 0 rfl) ?_
      refine lv_iload_n hx hb dJ7_fill_d0a16_13 rfl (lv_at hl 2 rfl) ?_
      refine lv_lload_n hx hb dJ7_fill_d0a16_14 rfl (lv_at hl 1 rfl) ?_
      obtain ⟨h_2, hf⟩ := hf
      refine va_last hx hb hK hP hD hS 0 1 rfl rfl h_2 dJ7_fill_d0a16_15 (fun H locs hP hD hS => ?_)
      replace hP : va_P (dC, dI) vwCl [(h0, .inl (cL, n_, .inr (.inl (vp_updL s_ x3.toNatClampNeg x1))))] H := hP
      replace hD : va_D A [(h0, .inl (cL, n_, .inr (.inl (vp_updL s_ x3.toNatClampNeg x1))))] := hD
      refine lv_iinc (v := (x3 + 1)) (lv' := [(3, .int (x3 + 1)), (0, .ref h0), (1, .long x1), (4, .int x4)]) hx hb dJ7_fill_d0a16_16 hl (k := 2) rfl (by rfl) (by decide) rfl (fun ls hl => ?_)
      refine lv_goto (tgt := 6) hx hb dJ7_fill_d0a16_19 (by decide) ?_
      exact ih x1 (x3 + 1) x4 (vp_updL s_ x3.toNatClampNeg x1) H locs ls hP hD hS (lv_sub hl [1, 2, 0, 3] rfl) hf
set_option maxHeartbeats 4000000 in
set_option maxRecDepth 100000 in
theorem metJ7_fill_d0a16 {h0 n_ : Nat} {s_ : Nat → Int64} {a1 : Int64} {sz : Nat} {k : (Nat → Int64) → Prop} (hf : pJ7_fill_d0a16 n_ s_ a1 k) : Met l yJ7_fill_d0a16 wsJ7_fill_d0a16 ({ frames := 0, cells := 0, slots := 0, locals := 0 } : Room) (va_Pc [.ref h0, .long a1] (PR dC dI (TYS cI cL cB cZ cT cR) [(h0, .inl (cL, n_, .inr (.inl s_)))] sz)) (va_Qv (fun (u : (Nat → Int64)) => k u) (fun (u : (Nat → Int64)) t => va_P (dC, dI) vwCl [(h0, .inl (cL, n_, .inr (.inl u)))] t.heap ∧ va_D (va_A [(h0, .inl (cL, n_, .inr (.inl s_)))] sz) [(h0, .inl (cL, n_, .inr (.inl u)))]) (va_A [(h0, .inl (cL, n_, .inr (.inl s_)))] sz)) 0 0 (va_A [(h0, .inl (cL, n_, .inr (.inl s_)))] sz) := by
  refine Met.ofW (cc := cJ7_fill_d0a16) (maxL := 5) (ret := none) (by decide) rfl ?_
  intro p e s m args below meth c s₁ B hml hv
  obtain ⟨rfl, hsz, hP, hK, hN, hD0⟩ := hv
  have C : CX p s m _ meth c cJ7_fill_d0a16 5 wsJ7_fill_d0a16 RJ7 none := ⟨B.exec, B.bytes, hml, findClass_of_methodNamed B.named, atoms_spec (ws := wsJ7_fill_d0a16) B.pre, B.returns, B.notSynchronized⟩
  obtain ⟨hx, hb, -, hown, hts, hr, hlocks⟩ := id C
  subst hsz
  have hD := hD0.self (sz := s.heap.size)
  generalize hAe : va_A [(h0, .inl (cL, n_, .inr (.inl s_)))] s.heap.size = A at hD ⊢
  have hA : ∀ q : Nat, s.heap.size ≤ q → A q := fun q h => by rw [← hAe]; exact Or.inr h
  have hS : va_S A s.heap s.heap [] := va_S.rf
  have hl := lv_entry ([.ref h0, .long a1]) (n := 5) (Nat.le_of_ble_eq_true rfl)
  rw [lg_entry_eq]
  generalize (lg_sl ([.ref h0, .long a1]) ++ List.replicate (5 - (lg_sl ([.ref h0, .long a1])).length) Slot.unset).toArray = ls at hl ⊢
  have hl : lv_has ls 5 [(0, .ref h0), (1, .long a1)] := hl
  unfold pJ7_fill_d0a16 at hf
  obtain ⟨H, hH⟩ : ∃ H, H = s.heap := ⟨_, rfl⟩
  obtain ⟨locs, hlo⟩ : ∃ L : List Loc, L = [] := ⟨_, rfl⟩
  have hS : va_S A s.heap H locs := by rw [hH, hlo]; exact hS
  rw [← hH] at hP
  have hG : W p l e ({ frames := 0, cells := 0, slots := 0, locals := 0 } : Room) s m [.ref h0, .long a1].toArray below meth c H locs 0 0 (MQ below (va_Qv (fun (u : (Nat → Int64)) => k u) (fun (u : (Nat → Int64)) t => va_P (dC, dI) vwCl [(h0, .inl (cL, n_, .inr (.inl u)))] t.heap ∧ va_D A [(h0, .inl (cL, n_, .inr (.inl u)))]) A) [.ref h0, .long a1].toArray s 0 0 A) (F0 m 0 ls []) := by
    clear hlo hH hD0
    refine lv_iconst (v := (0 : Int32)) hx hb dJ7_fill_d0a16_0 (by decide) ?_
    refine lv_istore_n (lv' := [(3, .int (0 : Int32)), (0, .ref h0), (1, .long a1)]) hx hb dJ7_fill_d0a16_1 rfl hl (by decide) rfl (fun ls hl => ?_)
    refine lv_aload_n hx hb dJ7_fill_d0a16_2 rfl (lv_at hl 1 rfl) ?_
    refine va_alen (v := (nI n_)) hx hb hK hP 0 1 rfl rfl rfl dJ7_fill_d0a16_3 ?_
    refine lv_istore (lv' := [(4, .int (nI n_)), (3, .int (0 : Int32)), (0, .ref h0), (1, .long a1)]) hx hb dJ7_fill_d0a16_4 hl (by decide) rfl (fun ls hl => ?_)
    obtain ⟨n6, hf⟩ := hf
    refine wJ7_fill_d0a16_6 C hK hN hA (fun s__3 H locs ls hP hD hS hl hf => ?_) n6 a1 (0 : Int32) (nI n_) s_ H locs ls hP hD hS (lv_sub hl [2, 3, 1, 0] rfl) hf
    exact W.vret hx hb hr (fun t ht hW => ⟨⟨(s__3), rfl, hf, by rw [ht]; exact hP, hD⟩, hS.F ht⟩) hS.2.2 dJ7_fill_d0a16_22
  rw [hH, hlo] at hG
  exact hG
set_option maxHeartbeats 4000000 in
set_option maxRecDepth 100000 in
theorem wX7_mixedInto_24 {p : Program} {e : Env} {s : State} {m : MethodId} {args : Array Value} {below : List Frame} {meth : Method} {c : Code} (C : CX p s m args meth c cX7_mixedInto 7 wsX7_mixedInto RX7 (some .long)) (hK : va_K (dC, dI) vwCl (TYS cI cL cB cZ cT cR) s) (hN : NW s) {h0 h1 n_cells : Nat} {s_most s_width s_size : Int32} {s_cells : Nat → Int32} {k : Int64 → Prop} {kx : Int64 → Prop} (hP : va_P (dC, dI) vwCl [(h0, .inr (7, [.int s_most, .int s_width, .ref h1, .int s_size])), (h1, .inl (cI, n_cells, .inl s_cells))] s.heap) (hkx : ∀ (x3 : Int64) (ls : Array Slot), lv_has ls 7 [(0, .ref h0), (3, .long x3)] → kx x3 → W p l e ({ frames := 1, cells := 0, slots := 0, locals := 24 } : Room) s m args below meth c s.heap [] 0 0 (MQ below (roQl k) args s 0 0 (fun _ => False)) (F0 m 52 ls [])) : ∀ (n24 : Nat), ∀ (x3 : Int64) (x5 : Int32) (x6 : Int32) (ls : Array Slot), lv_has ls 7 [(0, .ref h0), (3, .long x3), (5, .int x5), (6, .int x6)] → pX7_mixedInto_24 n_cells s_cells kx n24 x3 x5 x6 → W p l e ({ frames := 1, cells := 0, slots := 0, locals := 24 } : Room) s m args below meth c s.heap [] 0 0 (MQ below (roQl k) args s 0 0 (fun _ => False)) (F0 m 24 ls []) := by
  obtain ⟨hx, hb, hml, hown, hts, hr, hlocks⟩ := id C
  intro n24
  induction n24 with
  | zero =>
    intro x3 x5 x6 ls hl hf
    rw [pX7_mixedInto_24] at hf
    exact hf.elim
  | succ n24 ih =>
    intro x3 x5 x6 ls hl hf
    rw [pX7_mixedInto_24] at hf
    refine lv_iload hx hb dX7_mixedInto_24 (lv_at hl 3 rfl) ?_
    refine lv_iload hx hb dX7_mixedInto_26 (lv_at hl 2 rfl) ?_
    refine lv_icmp_ge (tgt := 52) hx hb dX7_mixedInto_28 (by decide) (fun c_1 => ?_) (fun c_1 => ?_)
    · replace hf := hf.1 c_1
      exact hkx x3 ls (lv_sub hl [0, 1] rfl) hf
    · replace hf := hf.2 c_1
      refine lv_ldc2 (v := (31 : Int64)) hx hb hown (hts _ mX7_mixedInto_k41) dX7_mixedInto_31 ?_
      refine lv_lload_n hx hb dX7_mixedInto_34 rfl (lv_at hl 1 rfl) ?_
      refine lv_lmul hx hb dX7_mixedInto_35 ?_
      refine lv_aload_n hx hb dX7_mixedInto_36 rfl (lv_at hl 0 rfl) ?_
      refine va_get (D := (dC, dI)) (ci := 7) (v := .ref h1) (C := RX7) (T := TX7) (N := 4) hx hb hts iX7_mixedInto_X7 hown hK hP 0 rfl rfl 2 (by decide) (hts _ mX7_mixedInto_f27) (fun _ h9 => h9) rfl dX7_mixedInto_37 ?_
      refine lv_iload hx hb dX7_mixedInto_40 (lv_at hl 3 rfl) ?_
      obtain ⟨h_2, hf⟩ := hf
      refine va_iald hx hb hK hP 1 0 rfl rfl h_2 dX7_mixedInto_42 ?_
      refine lv_i2l (v := (s_cells x6.toNatClampNeg).toInt64) hx hb dX7_mixedInto_43 rfl ?_
      refine lv_ladd hx hb dX7_mixedInto_44 ?_
      refine lv_lstore_n (lv' := [(3, .long (((31 : Int64) * x3) + (s_cells x6.toNatClampNeg).toInt64)), (0, .ref h0), (5, .int x5), (6, .int x6)]) hx hb dX7_mixedInto_45 rfl hl (by decide) rfl (fun ls hl => ?_)
      refine lv_iinc (v := (x6 + 1)) (lv' := [(6, .int (x6 + 1)), (3, .long (((31 : Int64) * x3) + (s_cells x6.toNatClampNeg).toInt64)), (0, .ref h0), (5, .int x5)]) hx hb dX7_mixedInto_46 hl (k := 3) rfl (by rfl) (by decide) rfl (fun ls hl => ?_)
      refine lv_goto (tgt := 24) hx hb dX7_mixedInto_49 (by decide) ?_
      exact ih (((31 : Int64) * x3) + (s_cells x6.toNatClampNeg).toInt64) x5 (x6 + 1) ls (lv_sub hl [2, 1, 3, 0] rfl) hf
set_option maxHeartbeats 4000000 in
set_option maxRecDepth 100000 in
theorem metX7_mixedInto {h0 h1 n_cells : Nat} {s_most s_width s_size : Int32} {s_cells : Nat → Int32} {a1 : Int64} {k : Int64 → Prop} (hf : pX7_mixedInto n_cells s_width s_size s_cells a1 k) : Met l yX7_mixedInto wsX7_mixedInto ({ frames := 1, cells := 0, slots := 0, locals := 24 } : Room) (va_Pc [.ref h0, .long a1] (PW dC dI (TYS cI cL cB cZ cT cR) [(h0, .inr (7, [.int s_most, .int s_width, .ref h1, .int s_size])), (h1, .inl (cI, n_cells, .inl s_cells))])) (roQl k) 0 0 (fun _ => False) := by
  refine Met.ofW (cc := cX7_mixedInto) (maxL := 7) (ret := (some .long)) (by decide) rfl ?_
  intro p e s m args below meth c s₁ B hml hv
  obtain ⟨rfl, hP, hK, hN⟩ := hv
  have C : CX p s m _ meth c cX7_mixedInto 7 wsX7_mixedInto RX7 (some .long) := ⟨B.exec, B.bytes, hml, findClass_of_methodNamed B.named, atoms_spec (ws := wsX7_mixedInto) B.pre, B.returns, B.notSynchronized⟩
  obtain ⟨hx, hb, -, hown, hts, hr, hlocks⟩ := id C
  have hl := lv_entry ([.ref h0, .long a1]) (n := 7) (Nat.le_of_ble_eq_true rfl)
  rw [lg_entry_eq]
  generalize (lg_sl ([.ref h0, .long a1]) ++ List.replicate (7 - (lg_sl ([.ref h0, .long a1])).length) Slot.unset).toArray = ls at hl ⊢
  have hl : lv_has ls 7 [(0, .ref h0), (1, .long a1)] := hl
  unfold pX7_mixedInto at hf
  refine lv_lload_n hx hb dX7_mixedInto_0 rfl (lv_at hl 1 rfl) ?_
  refine lv_lstore_n (lv' := [(3, .long a1), (0, .ref h0), (1, .long a1)]) hx hb dX7_mixedInto_1 rfl hl (by decide) rfl (fun ls hl => ?_)
  refine lv_aload_n hx hb dX7_mixedInto_2 rfl (lv_at hl 1 rfl) ?_
  refine va_get (D := (dC, dI)) (ci := 7) (v := .int s_size) (C := RX7) (T := TX7) (N := 4) hx hb hts iX7_mixedInto_X7 hown hK hP 0 rfl rfl 3 (by decide) (hts _ mX7_mixedInto_f9) (fun _ h9 => h9) rfl dX7_mixedInto_3 ?_
  refine lv_aload_n hx hb dX7_mixedInto_6 rfl (lv_at hl 1 rfl) ?_
  refine va_get (D := (dC, dI)) (ci := 7) (v := .int s_width) (C := RX7) (T := TX7) (N := 4) hx hb hts iX7_mixedInto_X7 hown hK hP 0 rfl rfl 1 (by decide) (hts _ mX7_mixedInto_f24) (fun _ h9 => h9) rfl dX7_mixedInto_7 ?_
  refine lv_imul hx hb dX7_mixedInto_10 ?_
  refine lv_aload_n hx hb dX7_mixedInto_11 rfl (lv_at hl 1 rfl) ?_
  refine va_get (D := (dC, dI)) (ci := 7) (v := .ref h1) (C := RX7) (T := TX7) (N := 4) hx hb hts iX7_mixedInto_X7 hown hK hP 0 rfl rfl 2 (by decide) (hts _ mX7_mixedInto_f27) (fun _ h9 => h9) rfl dX7_mixedInto_12 ?_
  refine va_alen (v := (nI n_cells)) hx hb hK hP 1 0 rfl rfl rfl dX7_mixedInto_15 ?_
  refine va_mmin hx hb (hml.trans hl.1.symm) hown (hts _ mX7_mixedInto_c38) (hts _ mX7_mixedInto_smin) (hts _ mX7_mixedInto_iMath) (hts _ mX7_mixedInto_kmin) (Nat.le_of_ble_eq_true rfl) (Nat.le_of_ble_eq_true rfl) (Nat.zero_le _) (Nat.zero_le _) dX7_mixedInto_16 ?_
  refine W.eq (g2 := F0 m 19 ls [.int (mmin (s_size * s_width) (nI n_cells))]) rfl ?_
  refine lv_istore (lv' := [(5, .int (mmin (s_size * s_width) (nI n_cells))), (3, .long a1), (0, .ref h0), (1, .long a1)]) hx hb dX7_mixedInto_19 hl (by decide) rfl (fun ls hl => ?_)
  refine lv_iconst (v := (0 : Int32)) hx hb dX7_mixedInto_21 (by decide) ?_
  refine lv_istore (lv' := [(6, .int (0 : Int32)), (5, .int (mmin (s_size * s_width) (nI n_cells))), (3, .long a1), (0, .ref h0), (1, .long a1)]) hx hb dX7_mixedInto_22 hl (by decide) rfl (fun ls hl => ?_)
  obtain ⟨n24, hf⟩ := hf
  refine wX7_mixedInto_24 C hK hN hP (fun x3_3 ls hl hf => ?_) n24 a1 (mmin (s_size * s_width) (nI n_cells)) (0 : Int32) ls (lv_sub hl [3, 2, 1, 0] rfl) hf
  refine lv_lload_n hx hb dX7_mixedInto_52 rfl (lv_at hl 1 rfl) ?_
  exact W.lret (v := x3_3) hx hb hr (fun t ht hW => ⟨x3_3, rfl, hf, ht⟩) (fun q h => by cases h) dX7_mixedInto_53
end
